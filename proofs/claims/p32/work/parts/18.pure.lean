/-! what the class's reading methods answer, as values -/
theorem le_f {n k : Nat} (h : k < n) (hn : n < 2147483648) : ¬ i32 n ≤ i32 k := fun q => by
  have := (i32_le hn (by omega)).mp q
  omega
theorem le_t {n k : Nat} (h : n ≤ k) (hk : k < 2147483648) : i32 n ≤ i32 k := (i32_le (by omega) hk).mpr h
abbrev bit1 (b : Bool) : Int32 := if b then 1 else 0
theorem bit1_0 {b : Bool} : bit1 b = 0 ↔ b = false := by cases b <;> decide
theorem bit1_1 {b : Bool} : bit1 b = 1 ↔ b = true := by cases b <;> decide
def zset (c : Nat → Bool) (n : Nat) : Int32 := zfo (fun k acc => if c k then acc ||| ((1 : Int32) <<< (i32 k &&& 31)) else acc) n 0
theorem hb_zset (c : Nat → Bool) {n : Nat} (hn : n ≤ 32) (j : Nat) : hb (zset c n) j = (decide (j < n) && c j) := by
  induction n with
  | zero => simp [zset, zfo, hb_zero]
  | succ n ih =>
    have e : zset c (n + 1) = if c n then zset c n ||| ((1 : Int32) <<< (i32 n &&& 31)) else zset c n := rfl
    rw [e]
    by_cases hc : c n = true
    · rw [if_pos hc, hb_or, ih (by omega), hb_one (by omega)]
      by_cases hj : j = n
      · subst hj
        simp [hc]
      · have h1 : decide (j < n + 1) = decide (j < n) := by
          apply decide_eq_decide.mpr
          omega
        rw [h1]
        simp [hj]
    · rw [if_neg hc, ih (by omega)]
      by_cases hj : j = n
      · subst hj
        simp [hc]
      · have h1 : decide (j < n + 1) = decide (j < n) := by
          apply decide_eq_decide.mpr
          omega
        rw [h1]
theorem zset_in (c : Nat → Bool) {n : Nat} (hn : n ≤ 32) : hbIn (zset c n) n := fun k hk => by
  rw [hb_zset c hn]
  simp
  intro h
  omega
theorem zset_cg {c d : Nat → Bool} {n : Nat} (h : ∀ k, k < n → c k = d k) : zset c n = zset d n := by
  induction n with
  | zero => rfl
  | succ n ih =>
    have e : ∀ c : Nat → Bool, zset c (n + 1) = if c n then zset c n ||| ((1 : Int32) <<< (i32 n &&& 31)) else zset c n := fun _ => rfl
    rw [e, e, ih (fun k hk => h k (by omega)), h n (by omega)]
/-- a piece's number, or none -/
def pcOk (p : Int32) : Prop := p = -1 ∨ ∃ k, k < 16 ∧ p = i32 k
def pv (S : Nat → Int32) (p : Int32) : Int32 := if p = -1 then 0 else S p.toNatClampNeg
def clashB (S R W : Nat → Int32) (p q : Int32) (far : Bool) : Bool := !(decide (p = -1)) && !(decide (q = -1)) && !(decide ((if far then W p.toNatClampNeg else R p.toNatClampNeg) &&& S q.toNatClampNeg = 0))
def farB (ab : Nat → Int32) (a b : Nat) : Bool := !(decide (a = b)) && !(hb (ab a) b) && !(hb (ab b) a)
def clv (nd : Int32) (ab con S R W : Nat → Int32) (node : Nat) (piece : Int32) : Int32 := zset (fun k => hb nd k && clashB S R W piece (if k = node then piece else con k) (farB ab node k)) 10
def bcv (x : Int32) : Int32 := (f_J6_bitCount_0f7a4 (fun _ _ => 0) (fun _ _ => 0) x (fun _ _ => 0) (fun _ _ => 0)).getD 0
def cntv (nd : Int32) (ab con S R W : Nat → Int32) : Int32 := zfo (fun k acc => if hb nd k then acc + bcv (clv nd ab con S R W k (con k) &&& (((2 : Int32) <<< (i32 k &&& 31)) - 1)) else acc) 10 0
def dutv (nd : Int32) (con K : Nat → Int32) (notes : Int32) : Int32 := zfo (fun k acc => if hb nd k then acc ||| pv K (con k) else acc) 10 0 &&& (notes ^^^ (-1))
def usv (nd : Int32) (con : Nat → Int32) (p : Int32) : Int32 := zfo (fun k acc => if hb nd k && decide (con k = p) then acc + 1 else acc) 10 0
def ordB (nd : Int32) (ab con S K R W : Nat → Int32) (notes : Int32) : Bool := decide (dutv nd con K notes = 0) && decide (cntv nd ab con S R W = 0)
section ZSP
variable {F G : Nat → Nat → Nat} {I A : zH}
theorem s_bc (x : Int32) : f_J6_bitCount_0f7a4 F G x I A = some (bcv x) := rfl
theorem s_hasBit {s : Int32} {k : Nat} (hk : k < 32) : f_X5_hasBit F G s (i32 k) I A = some (bit1 (hb s k)) := by
  unfold f_X5_hasBit
  rw [hb_sh s hk]
  cases hb s k <;> rfl
theorem s_licencesOf {B : Nat} {p : Int32} (hp : pcOk p) : f_X0_licencesOf F G B p I A = some (pv (A (F B 0)) p) := by
  unfold f_X0_licencesOf pv
  rcases hp with rfl | ⟨k, hk, rfl⟩
  · rfl
  · rw [if_neg (i32_ne (by omega)), if_neg (i32_ne (by omega))]
    exact zck_s (i32_in hk (by decide))
theorem s_dutiesOf {B : Nat} {p : Int32} (hp : pcOk p) : f_X0_dutiesOf F G B p I A = some (pv (A (F B 1)) p) := by
  unfold f_X0_dutiesOf pv
  rcases hp with rfl | ⟨k, hk, rfl⟩
  · rfl
  · rw [if_neg (i32_ne (by omega)), if_neg (i32_ne (by omega))]
    exact zck_s (i32_in hk (by decide))
theorem s_isClash {B : Nat} {p q : Int32} (far : Bool) (hp : pcOk p) (hq : pcOk q) : f_X0_isClash F G B p q (bit1 far) I A = some (bit1 (clashB (A (F B 0)) (A (F B 2)) (A (F B 3)) p q far)) := by
  unfold f_X0_isClash clashB
  rcases hp with rfl | ⟨k, hk, rfl⟩
  · rfl
  · rw [if_neg (i32_ne (by omega))]
    rcases hq with rfl | ⟨j, hj, rfl⟩
    · rw [if_pos rfl]
      simp
    · rw [if_neg (i32_ne (by omega))]
      have n1 : ¬ i32 k = -1 := i32_ne (by omega)
      have n2 : ¬ i32 j = -1 := i32_ne (by omega)
      cases far with
      | false =>
        refine (if_pos rfl).trans ((zck_s (i32_in hk (by decide))).trans ((zck_s (i32_in hj (by decide))).trans ?_))
        by_cases h : (A (F B 2) (i32 k).toNatClampNeg &&& A (F B 0) (i32 j).toNatClampNeg) = 0
        · rw [if_pos h]
          simp [h]
        · rw [if_neg h]
          simp [n1, n2, h]
      | true =>
        refine (if_neg (by decide)).trans ((zck_s (i32_in hk (by decide))).trans ((zck_s (i32_in hj (by decide))).trans ?_))
        by_cases h : (A (F B 3) (i32 k).toNatClampNeg &&& A (F B 0) (i32 j).toNatClampNeg) = 0
        · rw [if_pos h]
          simp [h]
        · rw [if_neg h]
          simp [n1, n2, h]
theorem hb_or1 (x y : Int32) : (x ||| y) &&& 1 = (x &&& 1) ||| (y &&& 1) := hb_ext fun k _ => by
  rw [hb_and, hb_or, hb_or, hb_and, hb_and]
  cases hb x k <;> cases hb y k <;> cases hb 1 k <;> rfl
theorem s_isFar {v : Nat} {a b : Nat} (ha : a < 10) (hb' : b < 10) : f_X3_isFar F G v (i32 a) (i32 b) I A = some (bit1 (farB (A (F v 1)) a b)) := by
  unfold f_X3_isFar farB
  by_cases h : a = b
  · subst h
    rw [if_pos rfl]
    simp
  · rw [if_neg (fun q => h ((i32_inj (by omega) (by omega)).mp q))]
    refine (zck_s (i32_in ha (by decide))).trans ((zck_s (i32_in hb' (by decide))).trans ?_)
    rw [i32_nat (by omega), i32_nat (by omega), hb_or1, hb_sh _ (by omega), hb_sh _ (by omega)]
    cases hb (A (F v 1) a) b <;> cases hb (A (F v 1) b) a <;> simp [h]
theorem s_clashesOf {v B : Nat} {a : Nat} {p : Int32} (ha : a < 10) (hp : pcOk p) (hc : ∀ k, k < 10 → hb (I v 4) k = true → pcOk (A (F v 2) k)) : f_X3_clashesOf F G v (i32 a) p B I A = some (clv (I v 4) (A (F v 1)) (A (F v 2)) (A (F B 0)) (A (F B 2)) (A (F B 3)) a p) := by
  unfold f_X3_clashesOf clv zset
  refine zb2_s (zIt_fo (α := Int32) (n := 10) _ (fun _ _ => True) (by decide) (fun acc _ => ?_) (fun k acc hk _ => ⟨?_, trivial⟩) trivial).1
  · exact if_pos (le_t (Nat.le_refl 10) (by decide))
  · refine (if_neg (le_f hk (by decide))).trans ((zb_s (s_hasBit (by omega))).trans ?_)
    by_cases h1 : hb (I v 4) k = true
    · refine (if_neg (fun q => by rw [bit1_0.mp q] at h1; cases h1)).trans ?_
      by_cases h2 : k = a
      · subst h2
        refine (if_pos rfl).trans ((zb_s (s_isFar ha hk)).trans ((zb_s (s_isClash _ hp hp)).trans ?_))
        simp only [h1, if_true, Bool.true_and]
        cases clashB (A (F B 0)) (A (F B 2)) (A (F B 3)) p p (farB (A (F v 1)) k k) <;> rw [i32_add1] <;> rfl
      · refine (if_neg (fun q => h2 ((i32_inj (by omega) (by omega)).mp q))).trans ((zck_s (i32_in hk (by decide))).trans ((zb_s (s_isFar ha hk)).trans ((zb_s (s_isClash _ hp (by rw [i32_nat (by omega)]; exact hc k hk h1))).trans ?_)))
        rw [i32_nat (by omega)]
        simp only [h1, h2, if_false, Bool.true_and]
        cases clashB (A (F B 0)) (A (F B 2)) (A (F B 3)) p (A (F v 2) k) (farB (A (F v 1)) a k) <;> rw [i32_add1] <;> rfl
    · have h1 := Bool.eq_false_iff.mpr h1
      refine (if_pos (bit1_0.mpr h1)).trans ?_
      rw [i32_add1]
      simp only [h1, Bool.false_and]
      rfl
end ZSP
