/-! what binds: sets, and what they ask and clash with -/
def stv (st : Nat → Int32) : Int32 := zfo (fun k acc => if st k = 0 then acc ||| 0 else acc ||| ((1 : Int32) <<< (i32 k &&& 31))) 6 0
def askv (ask : Nat → Int32) (s : Int32) : Int32 := zfo (fun k acc => if hb s k then acc ||| ask k else acc) 6 0
def farv (st riv : Nat → Int32) (s : Int32) : Int32 := zfo (fun k acc => if hb s k then acc ||| (if st k = 0 then riv k &&& stv st else riv k) else acc) 6 0
def put4 (f : Nat → Int32) (i : Nat) (v : Int32) : Nat → Int32 := fun j => if j = i then v else f j
def apB (F : Nat → Nat → Nat) (B : Nat) : Prop := F B 0 ≠ F B 1 ∧ F B 0 ≠ F B 2 ∧ F B 0 ≠ F B 3 ∧ F B 1 ≠ F B 2 ∧ F B 1 ≠ F B 3 ∧ F B 2 ≠ F B 3
section ZSB
variable {F G : Nat → Nat → Nat} {I A : zH}
theorem s_put {B lic i : Nat} {s : Int32} (hi : i < 16) (ap : apB F B) : ∃ A', f_X0_put F G B (i32 i) s lic I A = some A' ∧ (∀ a, a ≠ F B 0 → a ≠ F B 1 → a ≠ F B 2 → a ≠ F B 3 → A' a = A a) ∧ A' (F B 0) = put4 (A (F B 0)) i s ∧ A' (F B 1) = put4 (A (F B 1)) i (askv (fun k => I (G lic k) 0) s) ∧ A' (F B 2) = put4 (A (F B 2)) i (askv (fun k => I (G lic k) 4) s) ∧ A' (F B 3) = put4 (A (F B 3)) i (farv (fun k => I (G lic k) 2) (fun k => I (G lic k) 4) s) := by
  obtain ⟨a01, a02, a03, a12, a13, a23⟩ := ap
  have hin := i32_in hi (by decide : 16 < 2147483648)
  have hni : (i32 i).toNatClampNeg = i := i32_nat (by omega)
  unfold f_X0_put
  refine (show ∃ A', zb2 _ _ = some A' ∧ _ from ?_)
  have h1 := (zIt_fo (α := Int32) (B := fun x => g_X0_put_6 F G B (i32 i) s lic x.1 x.2 I A) (n := 6) (fun k acc => if I (G lic k) 2 = 0 then acc ||| 0 else acc ||| ((1 : Int32) <<< (i32 k &&& 31))) (fun _ _ => True) (by decide) (fun acc _ => if_pos (le_t (Nat.le_refl 6) (by decide))) (fun k acc hk _ => ⟨by
    refine (if_neg (le_f hk (by decide))).trans ((zck_s (i32_in hk (by decide))).trans ?_)
    rw [i32_nat (by omega), i32_add1]
    split <;> rfl, trivial⟩) (a := 0) trivial).1
  have e1 : stv (fun k => I (G lic k) 2) = zfo (fun k acc => if I (G lic k) 2 = 0 then acc ||| 0 else acc ||| ((1 : Int32) <<< (i32 k &&& 31))) 6 0 := rfl
  rw [← e1] at h1
  generalize hst : stv (fun k => I (G lic k) 2) = strong at h1
  have h2 := zIt_inv (fun x : Int32 × zH => g_X0_put_73 F G B (i32 i) s lic strong x.1 x.2 I) 6 (fun k x => x.1 = i32 k ∧ (∀ a, a ≠ F B 0 → a ≠ F B 1 → a ≠ F B 2 → a ≠ F B 3 → x.2 a = A a) ∧ x.2 (F B 0) = put4 (A (F B 0)) i s ∧ x.2 (F B 1) = put4 (A (F B 1)) i (zfo (fun k acc => if hb s k then acc ||| I (G lic k) 0 else acc) k 0) ∧ x.2 (F B 2) = put4 (A (F B 2)) i (zfo (fun k acc => if hb s k then acc ||| I (G lic k) 4 else acc) k 0) ∧ x.2 (F B 3) = put4 (A (F B 3)) i (zfo (fun k acc => if hb s k then acc ||| (if I (G lic k) 2 = 0 then I (G lic k) 4 &&& strong else I (G lic k) 4) else acc) k 0)) (fun r => (∀ a, a ≠ F B 0 → a ≠ F B 1 → a ≠ F B 2 → a ≠ F B 3 → r.2 a = A a) ∧ r.2 (F B 0) = put4 (A (F B 0)) i s ∧ r.2 (F B 1) = put4 (A (F B 1)) i (askv (fun k => I (G lic k) 0) s) ∧ r.2 (F B 2) = put4 (A (F B 2)) i (askv (fun k => I (G lic k) 4) s) ∧ r.2 (F B 3) = put4 (A (F B 3)) i (farv (fun k => I (G lic k) 2) (fun k => I (G lic k) 4) s)) (by decide) (fun k x hk h => ?_) (fun x h => ?_) (k0 := 0) (by decide) (x := (i32 0, up2 (up2 (up2 (up2 A (F B 0) (i32 i).toNatClampNeg s) (F B 1) (i32 i).toNatClampNeg 0) (F B 2) (i32 i).toNatClampNeg 0) (F B 3) (i32 i).toNatClampNeg 0)) ?_
  · obtain ⟨⟨r1, r2⟩, e, q⟩ := h2
    refine ⟨r2, (zb2_s h1).trans ?_, q⟩
    refine (zck_s hin).trans ((zck_s hin).trans ((zck_s hin).trans ((zck_s hin).trans ?_)))
    unfold zlet
    exact zb2_s e
  · obtain ⟨x1, x2⟩ := x
    obtain ⟨p1, p2, p3, p4, p5, p6⟩ := h
    simp only at p1 p2 p3 p4 p5 p6
    subst p1
    have e0 : g_X0_put_73 F G B (i32 i) s lic strong (i32 k) x2 I = _ := (if_neg (le_f hk (by decide))).trans (zb_s (s_hasBit (by omega)))
    by_cases h5 : hb s k = true
    · have zs1 : ∀ f : Nat → Int32, zfo (fun k acc => if hb s k then acc ||| f k else acc) (k + 1) 0 = zfo (fun k acc => if hb s k then acc ||| f k else acc) k 0 ||| f k := fun f => if_pos h5
      have hA9 : ∀ v, (up2 x2 (F B 1) i v) (F B 1) = put4 (A (F B 1)) i v := fun v => by
        funext j
        by_cases hj : j = i
        · subst hj
          rw [up2_at]
          simp [put4]
        · rw [up2_k _ _ _ hj, p4]
          simp [put4, hj]
      have key : ∀ w : Int32, w = (if I (G lic k) 2 = 0 then I (G lic k) 4 &&& strong else I (G lic k) 4) → ∃ y, y = (i32 (k + 1), up2 (up2 (up2 x2 (F B 1) i (x2 (F B 1) i ||| I (G lic k) 0)) (F B 2) i (x2 (F B 2) i ||| I (G lic k) 4)) (F B 3) i (x2 (F B 3) i ||| w)) ∧ (y.1 = i32 (k + 1) ∧ (∀ a, a ≠ F B 0 → a ≠ F B 1 → a ≠ F B 2 → a ≠ F B 3 → y.2 a = A a) ∧ y.2 (F B 0) = put4 (A (F B 0)) i s ∧ y.2 (F B 1) = put4 (A (F B 1)) i (zfo (fun k acc => if hb s k then acc ||| I (G lic k) 0 else acc) (k + 1) 0) ∧ y.2 (F B 2) = put4 (A (F B 2)) i (zfo (fun k acc => if hb s k then acc ||| I (G lic k) 4 else acc) (k + 1) 0) ∧ y.2 (F B 3) = put4 (A (F B 3)) i (zfo (fun k acc => if hb s k then acc ||| (if I (G lic k) 2 = 0 then I (G lic k) 4 &&& strong else I (G lic k) 4) else acc) (k + 1) 0)) := by
        intro w hw
        refine ⟨_, rfl, rfl, fun a b0 b1 b2 b3 => ?_, ?_, ?_, ?_, ?_⟩
        · dsimp only
          rw [up2_f _ _ _ b3, up2_f _ _ _ b2, up2_f _ _ _ b1]
          exact p2 a b0 b1 b2 b3
        · dsimp only
          rw [up2_f _ _ _ a03, up2_f _ _ _ a02, up2_f _ _ _ a01]
          exact p3
        · dsimp only
          rw [up2_f _ _ _ a13, up2_f _ _ _ a12, hA9, zs1, p4]
          simp [put4]
        · dsimp only
          rw [up2_f _ _ _ a23, zs1, p5]
          funext j
          by_cases hj : j = i
          · subst hj
            rw [up2_at]
            simp [put4]
          · rw [up2_k _ _ _ hj, up2_f _ _ _ (fun q => a12 q.symm), p5]
            simp [put4, hj]
        · dsimp only
          rw [zs1 (fun k => if I (G lic k) 2 = 0 then I (G lic k) 4 &&& strong else I (G lic k) 4), p6]
          funext j
          by_cases hj : j = i
          · subst hj
            rw [up2_at]
            simp [put4, hw]
          · rw [up2_k _ _ _ hj, up2_f _ _ _ (fun q => a23 q.symm), up2_f _ _ _ (fun q => a13 q.symm), p6]
            simp [put4, hj]
      have c2 : ∀ v w, up2 (up2 x2 (F B 1) i v) (F B 2) i w (F B 3) i = x2 (F B 3) i := fun v w => by
        rw [up2_a _ _ _ _ (fun q => a23 q.symm), up2_a _ _ _ _ (fun q => a13 q.symm)]
      have c1 : ∀ v, up2 x2 (F B 1) i v (F B 2) i = x2 (F B 2) i := fun v => up2_a _ _ _ _ (fun q => a12 q.symm)
      have e2 : g_X0_put_73 F G B (i32 i) s lic strong (i32 k) x2 I = _ := e0.trans ((if_neg (fun q => by rw [bit1_0.mp q] at h5; cases h5)).trans ((zck_s (i32_in hk (by decide))).trans ((zck_s hin).trans ((zck_s hin).trans ((zck_s hin).trans ((zck_s hin).trans (zck_s hin)))))))
      by_cases h6 : I (G lic k) 2 = 0
      · obtain ⟨y, hy, hJ⟩ := key (I (G lic k) 4 &&& strong) (if_pos h6).symm
        refine ⟨y, e2.trans ?_, hJ⟩
        rw [hni, i32_nat (by omega), if_pos h6]
        refine (zck_s (i32_in2 hi (by decide))).trans ?_
        show some (Sum.inl (i32 k + 1, _)) = _
        rw [hy, i32_add1, c2, c1]
      · obtain ⟨y, hy, hJ⟩ := key (I (G lic k) 4) (if_neg h6).symm
        refine ⟨y, e2.trans ?_, hJ⟩
        rw [hni, i32_nat (by omega), if_neg h6]
        refine (zck_s (i32_in2 hi (by decide))).trans ?_
        show some (Sum.inl (i32 k + 1, _)) = _
        rw [hy, i32_add1, c2, c1]
    · have h5 := Bool.eq_false_iff.mpr h5
      have zs0 : ∀ f : Nat → Int32, zfo (fun k acc => if hb s k then acc ||| f k else acc) (k + 1) 0 = zfo (fun k acc => if hb s k then acc ||| f k else acc) k 0 := fun f => if_neg (by rw [h5]; decide)
      refine ⟨(i32 (k + 1), x2), e0.trans ((if_pos (bit1_0.mpr h5)).trans (by rw [i32_add1])), rfl, p2, p3, ?_, ?_, ?_⟩
      · dsimp only
        rw [p4, zs0]
      · dsimp only
        rw [p5, zs0]
      · dsimp only
        rw [p6, zs0 (fun k => if I (G lic k) 2 = 0 then I (G lic k) 4 &&& strong else I (G lic k) 4)]
  · obtain ⟨x1, x2⟩ := x
    obtain ⟨p1, p2, p3, p4, p5, p6⟩ := h
    simp only at p1 p2 p3 p4 p5 p6
    subst p1
    refine ⟨_, if_pos (le_t (Nat.le_refl 6) (by decide)), p2, p3, p4, p5, ?_⟩
    dsimp only
    rw [p6]
    unfold farv
    rw [hst]
  · have pu : ∀ (X : zH) (a : Nat) (v : Int32), up2 X a i v a = put4 (X a) i v := fun X a v => by
      funext j
      simp [up2, put4]
    rw [hni]
    refine ⟨rfl, fun a b0 b1 b2 b3 => ?_, ?_, ?_, ?_, ?_⟩
    · dsimp only
      rw [up2_f _ _ _ b3, up2_f _ _ _ b2, up2_f _ _ _ b1, up2_f _ _ _ b0]
    · dsimp only
      rw [up2_f _ _ _ a03, up2_f _ _ _ a02, up2_f _ _ _ a01, pu]
    · dsimp only
      rw [up2_f _ _ _ a13, up2_f _ _ _ a12, pu, up2_f _ _ _ (fun q => a01 q.symm)]
      rfl
    · dsimp only
      rw [up2_f _ _ _ a23, pu, up2_f _ _ _ (fun q => a12 q.symm), up2_f _ _ _ (fun q => a02 q.symm)]
      rfl
    · dsimp only
      rw [pu, up2_f _ _ _ (fun q => a23 q.symm), up2_f _ _ _ (fun q => a13 q.symm), up2_f _ _ _ (fun q => a03 q.symm)]
      rfl
end ZSB
