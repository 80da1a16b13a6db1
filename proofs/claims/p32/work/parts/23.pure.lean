/-! binding all the pieces, in their order -/
def orv (own : Nat → Int32) (sh : Nat → Nat → Int32) (lim : Int32) (S : Nat → Int32) (i : Nat) : Int32 := zfo (fun e acc => if sh i e < lim then acc else acc ||| S e) i (if own i = -1 then 0 else (1 : Int32) <<< (own i &&& 31))
def bsf (own fr : Nat → Int32) (sh : Nat → Nat → Int32) (lim : Int32) : Nat → Nat → Int32
  | 0 => fun _ => 0
  | k + 1 => fun j => if j = k then orv own sh lim (bsf own fr sh lim k) k &&& (fr k ^^^ (-1)) else bsf own fr sh lim k j
def bsv (own fr : Nat → Int32) (sh : Nat → Nat → Int32) (lim : Int32) (i : Nat) : Int32 := bsf own fr sh lim (i + 1) i
theorem zfo_cg {α : Type} {f g : Nat → α → α} {n : Nat} (h : ∀ k a, k < n → f k a = g k a) (a : α) : zfo f n a = zfo g n a := by
  induction n with
  | zero => rfl
  | succ n ih =>
    show f n (zfo f n a) = g n (zfo g n a)
    rw [ih (fun k a hk => h k a (by omega)), h n _ (by omega)]
theorem orv_cg {own : Nat → Int32} {sh : Nat → Nat → Int32} {lim : Int32} {S T : Nat → Int32} {i : Nat} (h : ∀ e, e < i → S e = T e) : orv own sh lim S i = orv own sh lim T i := zfo_cg (fun k a hk => by rw [h k hk]) _
theorem bsf_v (own fr : Nat → Int32) (sh : Nat → Nat → Int32) (lim : Int32) {j k : Nat} (h : j < k) : bsf own fr sh lim k j = bsv own fr sh lim j := by
  induction k with
  | zero => omega
  | succ k ih =>
    by_cases hj : j = k
    · subst hj
      rfl
    · have e : bsf own fr sh lim (k + 1) j = bsf own fr sh lim k j := if_neg hj
      rw [e]
      exact ih (by omega)
/-- the sets answer their own rule -/
theorem bsv_eq (own fr : Nat → Int32) (sh : Nat → Nat → Int32) (lim : Int32) (i : Nat) : bsv own fr sh lim i = orv own sh lim (bsv own fr sh lim) i &&& (fr i ^^^ (-1)) := by
  have e : bsv own fr sh lim i = orv own sh lim (bsf own fr sh lim i) i &&& (fr i ^^^ (-1)) := if_pos rfl
  rw [e, orv_cg (fun e he => bsf_v own fr sh lim he)]
theorem bsv_cg {own own' fr fr' : Nat → Int32} {sh sh' : Nat → Nat → Int32} {lim : Int32} {n : Nat} (h1 : ∀ i, i < n → own i = own' i) (h2 : ∀ i, i < n → fr i = fr' i) (h3 : ∀ i j, i < n → j < i → sh i j = sh' i j) : ∀ i, i < n → bsv own fr sh lim i = bsv own' fr' sh' lim i := by
  intro i
  induction i using Nat.strongRecOn with
  | ind i ih =>
    intro hi
    rw [bsv_eq, bsv_eq own' fr' sh' lim i, h2 i hi]
    congr 1
    unfold orv
    rw [h1 i hi]
    exact zfo_cg (fun k a hk => by rw [h3 i k hi hk, ih k hk (by omega)]) _
/-- what was told, if it was -/
def ownT (t l : Int32) (own : Nat → Int32) (i : Nat) : Int32 := if i32 i = t then l else own i
section ZSD
variable {F G : Nat → Nat → Nat} {I A : zH}
def shv (F G : Nat → Nat → Nat) (b : Nat) (A : zH) (i j : Nat) : Int32 := A (G (F b 2) i) j
def ownv (F G : Nat → Nat → Nat) (b : Nat) (I : zH) (i : Nat) : Int32 := I (G (F b 1) i) 1
def frv (F G : Nat → Nat → Nat) (b : Nat) (I : zH) (i : Nat) : Int32 := I (G (F b 1) i) 2
def licv (F G : Nat → Nat → Nat) (b : Nat) (I : zH) (s k : Nat) : Int32 := I (G (F b 4) k) s
theorem s_bind54 {b B : Nat} {lim t l : Int32} {i : Nat} {x : Int32} (hi : i < 16) : zIt (fun x => g_X5_bind_54 F G b B lim t l (i32 i) x.1 x.2 I A) 2000 (x, i32 0) = some (zfo (fun e acc => if shv F G b A i e < lim then acc else acc ||| A (F B 0) e) i x, i32 i) := by
  refine (zIt_fo (α := Int32) (n := i) _ (fun _ _ => True) (by omega) (fun acc _ => if_pos (le_t (Nat.le_refl i) (by omega))) (fun k acc hk _ => ⟨?_, trivial⟩) trivial).1
  refine (if_neg (le_f hk (by omega))).trans ((zck_s (i32_in hi (by decide))).trans ((zck_s (i32_in (by omega : k < 16) (by decide))).trans ?_))
  rw [i32_nat (by omega), i32_nat (by omega), i32_add1]
  by_cases h : A (G (F b 2) i) k < lim
  · rw [if_pos h]
    exact congrArg some (congrArg Sum.inl (Prod.ext (if_pos h).symm rfl))
  · rw [if_neg h]
    refine (zb_s (s_licencesOf (Or.inr ⟨k, by omega, rfl⟩))).trans ?_
    have e : pv (A (F B 0)) (i32 k) = A (F B 0) k := by
      unfold pv
      rw [if_neg (i32_ne (by omega)), i32_nat (by omega)]
    rw [e]
    exact congrArg some (congrArg Sum.inl (Prod.ext (if_neg h).symm rfl))
theorem s_bind {b B n : Nat} {lim t l : Int32} (hn : n ≤ 16) (hI : I b 8 = i32 n) (ap : apB F B) (hsh : ∀ i, i < 16 → G (F b 2) i ≠ F B 0 ∧ G (F b 2) i ≠ F B 1 ∧ G (F b 2) i ≠ F B 2 ∧ G (F b 2) i ≠ F B 3) :
    ∃ A', f_X5_bind F G b B lim t l I A = some A' ∧ (∀ a, a ≠ F B 0 → a ≠ F B 1 → a ≠ F B 2 → a ≠ F B 3 → A' a = A a) ∧
      (∀ S, S = bsv (ownT t l (ownv F G b I)) (frv F G b I) (shv F G b A) lim →
        (∀ j, A' (F B 0) j = if j < n then S j else A (F B 0) j) ∧ (∀ j, A' (F B 1) j = if j < n then askv (licv F G b I 0) (S j) else A (F B 1) j) ∧
        (∀ j, A' (F B 2) j = if j < n then askv (licv F G b I 4) (S j) else A (F B 2) j) ∧ (∀ j, A' (F B 3) j = if j < n then farv (licv F G b I 2) (licv F G b I 4) (S j) else A (F B 3) j)) := by
  unfold f_X5_bind
  generalize hS : bsv (ownT t l (ownv F G b I)) (frv F G b I) (shv F G b A) lim = S
  have key := zIt_inv (fun x : Int32 × zH => g_X5_bind_3 F G b B lim t l x.1 x.2 I) n (fun k x => x.1 = i32 k ∧ (∀ a, a ≠ F B 0 → a ≠ F B 1 → a ≠ F B 2 → a ≠ F B 3 → x.2 a = A a) ∧
      (∀ j, x.2 (F B 0) j = if j < k then S j else A (F B 0) j) ∧ (∀ j, x.2 (F B 1) j = if j < k then askv (licv F G b I 0) (S j) else A (F B 1) j) ∧
        (∀ j, x.2 (F B 2) j = if j < k then askv (licv F G b I 4) (S j) else A (F B 2) j) ∧ (∀ j, x.2 (F B 3) j = if j < k then farv (licv F G b I 2) (licv F G b I 4) (S j) else A (F B 3) j))
      (fun r => (∀ a, a ≠ F B 0 → a ≠ F B 1 → a ≠ F B 2 → a ≠ F B 3 → r.2 a = A a) ∧
      (∀ j, r.2 (F B 0) j = if j < n then S j else A (F B 0) j) ∧ (∀ j, r.2 (F B 1) j = if j < n then askv (licv F G b I 0) (S j) else A (F B 1) j) ∧
        (∀ j, r.2 (F B 2) j = if j < n then askv (licv F G b I 4) (S j) else A (F B 2) j) ∧ (∀ j, r.2 (F B 3) j = if j < n then farv (licv F G b I 2) (licv F G b I 4) (S j) else A (F B 3) j)) (by omega) (fun k x hk h => ?_) (fun x h => ?_) (k0 := 0) (Nat.zero_le _) (x := (i32 0, A)) ⟨rfl, fun _ _ _ _ _ => rfl, fun j => rfl, fun j => rfl, fun j => rfl, fun j => rfl⟩
  · obtain ⟨⟨r1, r2⟩, e, q0, q⟩ := key
    exact ⟨r2, zb2_s e, q0, fun T hT => by rw [hT]; exact q⟩
  · obtain ⟨x1, X⟩ := x
    obtain ⟨p1, p2, p3, p4, p5, p6⟩ := h
    simp only at p1 p2 p3 p4 p5 p6
    subst p1
    have hk16 : k < 16 := by omega
    have hshX : ∀ i j, i < 16 → shv F G b X i j = shv F G b A i j := fun i j hi => by
      obtain ⟨c0, c1, c2, c3⟩ := hsh i hi
      unfold shv
      rw [p2 _ c0 c1 c2 c3]
    have hSk : S k = orv (ownT t l (ownv F G b I)) (shv F G b A) lim S k &&& (frv F G b I k ^^^ (-1)) := by
      rw [← hS]
      exact bsv_eq _ _ _ _ _
    -- the value of the inner loop, from the right start
    have inner : ∀ own0 : Int32, own0 = ownT t l (ownv F G b I) k → ∀ x0 : Int32, x0 = (if own0 = -1 then 0 else (1 : Int32) <<< (own0 &&& 31)) → zfo (fun e acc => if shv F G b X k e < lim then acc else acc ||| X (F B 0) e) k x0 = orv (ownT t l (ownv F G b I)) (shv F G b A) lim S k := fun own0 h0 x0 hx => by
      unfold orv
      rw [← h0, ← hx]
      exact zfo_cg (fun e a he => by rw [hshX k e hk16, p3 e, if_pos he]) _
    have fin : ∀ v : Int32, v &&& (frv F G b I k ^^^ (-1)) = S k → ∃ y : Int32 × zH, zb (f_X0_put F G B (i32 k) (v &&& ((I (G (F b 1) (i32 k).toNatClampNeg) 2) ^^^ (-1))) (F b 4) I X) (fun A30 => some (Sum.inl (i32 k + 1, A30))) = (some (Sum.inl y) : Option ((Int32 × zH) ⊕ (Int32 × zH))) ∧ (y.1 = i32 (k + 1) ∧ (∀ a, a ≠ F B 0 → a ≠ F B 1 → a ≠ F B 2 → a ≠ F B 3 → y.2 a = A a) ∧
      (∀ j, y.2 (F B 0) j = if j < k + 1 then S j else A (F B 0) j) ∧ (∀ j, y.2 (F B 1) j = if j < k + 1 then askv (licv F G b I 0) (S j) else A (F B 1) j) ∧
        (∀ j, y.2 (F B 2) j = if j < k + 1 then askv (licv F G b I 4) (S j) else A (F B 2) j) ∧ (∀ j, y.2 (F B 3) j = if j < k + 1 then farv (licv F G b I 2) (licv F G b I 4) (S j) else A (F B 3) j)) := fun v hv => by
      have hv2 : v &&& ((I (G (F b 1) (i32 k).toNatClampNeg) 2) ^^^ (-1)) = S k := by
        rw [i32_nat (by omega)]
        exact hv
      obtain ⟨A2, e, q0, q1, q2, q3, q4⟩ := s_put (F := F) (G := G) (I := I) (A := X) (B := B) (lic := F b 4) (i := k) (s := S k) hk16 ap
      have st : ∀ (f : Nat → Int32) (g : Nat → Int32) (X1 Y1 : Nat → Int32), (∀ j, X1 j = if j < k then g j else f j) → Y1 = put4 X1 k (g k) → ∀ j, Y1 j = if j < k + 1 then g j else f j := fun f g X1 Y1 h1 h2 j => by
        rw [h2]
        unfold put4
        by_cases hj : j = k
        · subst hj
          simp
        · rw [if_neg hj, h1 j]
          by_cases hjk : j < k
          · rw [if_pos hjk, if_pos (by omega)]
          · rw [if_neg hjk, if_neg (by omega)]
      refine ⟨(i32 (k + 1), A2), ?_, rfl, fun a b0 b1 b2 b3 => (q0 a b0 b1 b2 b3).trans (p2 a b0 b1 b2 b3), st _ S _ _ p3 q1, st _ (fun j => askv (licv F G b I 0) (S j)) _ _ p4 q2, st _ (fun j => askv (licv F G b I 4) (S j)) _ _ p5 q3, st _ (fun j => farv (licv F G b I 2) (licv F G b I 4) (S j)) _ _ p6 q4⟩
      rw [hv2]
      refine (zb_s e).trans ?_
      rw [i32_add1]
    have hle : ¬ I b 8 ≤ i32 k := by rw [hI]; exact le_f hk (by omega)
    have hin := i32_in hk16 (by decide : 16 < 2147483648)
    by_cases ht : i32 k = t
    · by_cases hl : l = -1
      · obtain ⟨y, e, hy⟩ := fin (zfo (fun e acc => if shv F G b X k e < lim then acc else acc ||| X (F B 0) e) k 0) (by
          rw [inner l (by unfold ownT; rw [if_pos ht]) 0 (by rw [if_pos hl])]
          exact hSk.symm)
        exact ⟨y, (if_neg hle).trans ((if_pos ht).trans ((if_pos hl).trans ((zb2_s (s_bind54 hk16)).trans ((zck_s hin).trans e)))), hy⟩
      · obtain ⟨y, e, hy⟩ := fin (zfo (fun e acc => if shv F G b X k e < lim then acc else acc ||| X (F B 0) e) k ((1 : Int32) <<< (l &&& 31))) (by
          rw [inner l (by unfold ownT; rw [if_pos ht]) _ (by rw [if_neg hl])]
          exact hSk.symm)
        exact ⟨y, (if_neg hle).trans ((if_pos ht).trans ((if_neg hl).trans ((zb2_s (s_bind54 hk16)).trans ((zck_s hin).trans e)))), hy⟩
    · have ho : ownT t l (ownv F G b I) k = I (G (F b 1) (i32 k).toNatClampNeg) 1 := by
        unfold ownT ownv
        rw [if_neg ht, i32_nat (by omega)]
      by_cases hl : I (G (F b 1) (i32 k).toNatClampNeg) 1 = -1
      · obtain ⟨y, e, hy⟩ := fin (zfo (fun e acc => if shv F G b X k e < lim then acc else acc ||| X (F B 0) e) k 0) (by
          rw [inner _ ho.symm 0 (by rw [if_pos hl])]
          exact hSk.symm)
        exact ⟨y, (if_neg hle).trans ((if_neg ht).trans ((zck_s hin).trans ((if_pos hl).trans ((zb2_s (s_bind54 hk16)).trans ((zck_s hin).trans e))))), hy⟩
      · obtain ⟨y, e, hy⟩ := fin (zfo (fun e acc => if shv F G b X k e < lim then acc else acc ||| X (F B 0) e) k ((1 : Int32) <<< ((I (G (F b 1) (i32 k).toNatClampNeg) 1) &&& 31))) (by
          rw [inner _ ho.symm _ (by rw [if_neg hl])]
          exact hSk.symm)
        exact ⟨y, (if_neg hle).trans ((if_neg ht).trans ((zck_s hin).trans ((if_neg hl).trans ((zb2_s (s_bind54 hk16)).trans ((zck_s hin).trans e))))), hy⟩
  · obtain ⟨x1, X⟩ := x
    obtain ⟨p1, p⟩ := h
    simp only at p1
    subst p1
    refine ⟨_, if_pos ?_, p⟩
    show I b 8 ≤ i32 n
    rw [hI]
    exact le_t (Nat.le_refl n) (by omega)
end ZSD
