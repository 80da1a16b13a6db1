/-! boundWith, scan: the same whatever stands in scratch -/
section ZBW
variable {F G : Nat → Nat → Nat} {I A : zH} {b n : Nat} {ix : Nat → Nat}
theorem zScr.refl : zScr F G b A A := fun _ _ _ => rfl
theorem s_boundWith (ad : AD F G b ix) (h : Inv F G b n I A) {m : Nat} (hm : 1 ≤ m) (hm2 : m ≤ 100) (A1 : zH) (hs : zScr F G b A A1) : ∃ A2, f_X5_boundWith F G b (i32 m) I A1 = some (zfo (fun k acc => if nowS F G b I A (i32 m) k = A (F (F b 6) 0) k then acc else acc + 1) n 0, A2) ∧ zScr F G b A A2 := by
  have hn := h.n16
  obtain ⟨A2, e, a2, b2⟩ := s_bind (F := F) (G := G) (I := I) (A := A1) (b := b) (B := F b 7) (lim := i32 m) (t := -1) (l := -1) hn h.i8 ad.apB7 ad.shB7
  obtain ⟨c0, -⟩ := b2 _ rfl
  have hS : ∀ j, j < n → bsv (ownT (-1) (-1) (ownv F G b I)) (frv F G b I) (shv F G b A1) (i32 m) j = nowS F G b I A (i32 m) j := bsv_cg (fun i hi => by
    unfold ownT
    rw [if_neg (i32_ne (by omega))]) (fun _ _ => rfl) (fun i j hi hj => shv_cg (fun i hi => zScr.sh ad hs hi) i (by omega) j)
  have hA2 : zScr F G b A1 A2 := fun a q1 q2 => a2 a (q1 0 (by decide)) (q1 1 (by decide)) (q1 2 (by decide)) (q1 3 (by decide))
  have h2 := zScr.trans hs hA2
  refine ⟨A2, ?_, h2⟩
  unfold f_X5_boundWith
  have hne : f_X5_needNearness F G (i32 m) I A1 = some () := by
    unfold f_X5_needNearness
    exact (if_neg (fun q => by have := (i32_lt (b := 1) (by omega) (by decide)).mp q; omega)).trans (if_pos ((i32_le (b := 100) (by omega) (by decide)).mpr hm2))
  refine (zb_s hne).trans ((zb_s e).trans ?_)
  refine zb2_s (zIt_fo (α := Int32) (n := n) _ (fun _ _ => True) (by omega) (fun acc _ => if_pos (by rw [h.i8]; exact le_t (Nat.le_refl n) (by omega))) (fun k acc hk _ => ⟨?_, trivial⟩) trivial).1
  refine (if_neg (by rw [h.i8]; exact le_f hk (by omega))).trans ((zb_s (s_licencesOf (Or.inr ⟨k, by omega, rfl⟩))).trans ((zb_s (s_licencesOf (Or.inr ⟨k, by omega, rfl⟩))).trans ?_))
  have ep : ∀ S : Nat → Int32, pv S (i32 k) = S k := fun S => by
    unfold pv
    rw [if_neg (i32_ne (by omega)), i32_nat (by omega)]
  rw [ep, ep, c0, if_pos hk, hS k hk, zScr.bd ad h2 (by decide : 0 < 4), i32_add1]
  split <;> rfl
/-- with the nearness that is, nothing is bound otherwise -/
theorem bw60 (h : Inv F G b n I A) : zfo (fun k acc => if nowS F G b I A (i32 60) k = A (F (F b 6) 0) k then acc else acc + 1) n (0 : Int32) = 0 := by
  have key : ∀ k, k ≤ n → zfo (fun k acc => if nowS F G b I A (i32 60) k = A (F (F b 6) 0) k then acc else acc + 1) k (0 : Int32) = 0 := by
    intro k
    induction k with
    | zero => exact fun _ => rfl
    | succ k ih =>
      intro hk
      show (if nowS F G b I A (i32 60) k = A (F (F b 6) 0) k then zfo _ k (0 : Int32) else _) = 0
      rw [if_pos (h.2.2.1 k (by omega)).1.symm]
      exact ih (by omega)
  exact key n (Nat.le_refl n)
end ZBW
