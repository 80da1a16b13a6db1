/-! the rest of the questions -/
section ZQU
variable {F G : Nat → Nat → Nat} {I A : zH} {b n : Nat} {ix : Nat → Nat}
def offv (og : Nat → Int32) (i n : Nat) : Int32 := zset (fun j => decide (i < j) && hb (og j) i) n
theorem s_op6 (h : Inv F G b n I A) {i : Nat} (hi : i < n) : f_X5_ofPiece F G b (i32 i) 6 I A = some (offv (A (F b 3)) i n) := by
  have hn := h.n16
  unfold f_X5_ofPiece
  refine (zb_s (s_needPiece hn h.i8 hi)).trans ((zck_s (i32_in (by omega : i < 16) (by decide))).trans ((if_neg (by decide)).trans ((if_neg (by decide)).trans ((if_neg (by decide)).trans ((if_neg (by decide)).trans ((if_neg (by decide)).trans ((if_neg (by decide)).trans ((if_pos rfl).trans ?_))))))))
  have st : ∀ k, zset (fun j => decide (i < j) && hb (A (F b 3) j) i) (k + 1) = if (decide (i < k) && hb (A (F b 3) k) i) = true then zset (fun j => decide (i < j) && hb (A (F b 3) j) i) k ||| ((1 : Int32) <<< (i32 k &&& 31)) else zset (fun j => decide (i < j) && hb (A (F b 3) j) i) k := fun _ => rfl
  have z0 : zset (fun j => decide (i < j) && hb (A (F b 3) j) i) (i + 1) = 0 := by
    refine hb_e.mpr fun k _ => ?_
    rw [hb_zset _ (by omega)]
    by_cases hk : k < i + 1
    · have : ¬ i < k := by omega
      simp [this]
    · simp [hk]
  have key := zIt_inv (fun x : Int32 × Int32 => g_X5_offspring_6 F G b (i32 i) x.1 x.2 I A) n (fun k x => i < k ∧ x = (zset (fun j => decide (i < j) && hb (A (F b 3) j) i) k, i32 k)) (fun x => x.1 = offv (A (F b 3)) i n) (by omega) (fun k x hk hx => ?_) (fun x hx => ?_) (k0 := i + 1) (by omega) (x := (0, i32 (i + 1))) ⟨by omega, by rw [z0]⟩
  · obtain ⟨⟨x1, x2⟩, e, g1⟩ := key
    simp only at g1
    subst g1
    unfold f_X5_offspring
    rw [i32_add1]
    exact zb_s (zb2_s e)
  · obtain ⟨hik, rfl⟩ := hx
    have e0 : g_X5_offspring_6 F G b (i32 i) (zset (fun j => decide (i < j) && hb (A (F b 3) j) i) k) (i32 k) I A = _ := (if_neg (by rw [h.i8]; exact le_f hk (by omega))).trans ((zck_s (i32_in (by omega : k < 16) (by decide))).trans (zb_s (s_hasBit (by omega))))
    rw [i32_nat (by omega)] at e0
    refine ⟨(_, i32 (k + 1)), e0.trans ?_, by omega, rfl⟩
    rw [st]
    cases hbk : hb (A (F b 3) k) i with
    | false =>
      refine (if_pos rfl).trans ?_
      rw [i32_add1]
      simp
    | true =>
      refine (if_neg (by decide)).trans ?_
      rw [i32_add1]
      simp [hik]
  · obtain ⟨-, rfl⟩ := hx
    exact ⟨_, if_pos (by rw [h.i8]; exact le_t (Nat.le_refl n) (by omega)), rfl⟩
def usevs (F G : Nat → Nat → Nat) (b : Nat) (I A : zH) (i : Nat) : Int32 := zfo (fun p acc => acc + usv (I (G (F b 5) p) 4) (A (F (G (F b 5) p) 2)) (i32 i)) 2 0
theorem s_op7 (h : Inv F G b n I A) {i : Nat} (hi : i < n) : f_X5_ofPiece F G b (i32 i) 7 I A = some (usevs F G b I A i) := by
  have hn := h.n16
  have hp10 := h.1.1.2.2.2.1
  unfold f_X5_ofPiece
  refine (zb_s (s_needPiece hn h.i8 hi)).trans ((zck_s (i32_in (by omega : i < 16) (by decide))).trans ((if_neg (by decide)).trans ((if_neg (by decide)).trans ((if_neg (by decide)).trans ((if_neg (by decide)).trans ((if_neg (by decide)).trans ((if_neg (by decide)).trans ((if_neg (by decide)).trans ((if_pos rfl).trans ?_)))))))))
  refine zb_s ?_
  unfold f_X5_usesOf usevs
  refine zb2_s (zIt_fo (α := Int32) (n := 2) _ (fun _ _ => True) (by decide) (fun acc _ => if_pos (by rw [hp10]; exact le_t (Nat.le_refl 2) (by decide))) (fun p acc hp _ => ⟨?_, trivial⟩) trivial).1
  refine (if_neg (by rw [hp10]; exact le_f hp (by decide))).trans ((zck_s (i32_in (by omega : p < 5) (by decide))).trans ?_)
  rw [i32_nat (by omega)]
  refine (zb_s (s_X3_usesOf _)).trans ?_
  rw [i32_add1]
theorem s_op0 (h : Inv F G b n I A) {i : Nat} (hi : i < n) : f_X5_ofPiece F G b (i32 i) 0 I A = some (I (F (G (F b 1) i) 0) 2) := by
  have hn := h.n16
  unfold f_X5_ofPiece
  refine (zb_s (s_needPiece hn h.i8 hi)).trans ((zck_s (i32_in (by omega : i < 16) (by decide))).trans ((if_pos rfl).trans ?_))
  rw [i32_nat (by omega)]
theorem s_op1 (h : Inv F G b n I A) {i : Nat} (hi : i < n) : f_X5_ofPiece F G b (i32 i) 1 I A = some (I (F (G (F b 1) i) 0) 3) := by
  have hn := h.n16
  unfold f_X5_ofPiece
  refine (zb_s (s_needPiece hn h.i8 hi)).trans ((zck_s (i32_in (by omega : i < 16) (by decide))).trans ((if_neg (by decide)).trans ((if_pos rfl).trans ?_)))
  rw [i32_nat (by omega)]
theorem s_share (h : Inv F G b n I A) {i j : Nat} (hi : i < n) (hj : j < n) : f_X5_share F G b (i32 i) (i32 j) I A = some (shv F G b A i j) := by
  have hn := h.n16
  unfold f_X5_share
  refine (zb_s (s_needPiece hn h.i8 hi)).trans ((zb_s (s_needPiece hn h.i8 hj)).trans ((zck_s (i32_in (by omega : i < 16) (by decide))).trans ((zck_s (i32_in (by omega : j < 16) (by decide))).trans ?_)))
  rw [i32_nat (by omega), i32_nat (by omega)]
  rfl
/-- the licences' questions -/
def pbv (S : Nat → Int32) (n l : Nat) : Int32 := zfo (fun k acc => if hb (S k) l then acc + 1 else acc) n 0
theorem s_ol5 (h : Inv F G b n I A) {l : Nat} (hl : l < 4) : f_X5_ofLicence F G b (i32 l) 5 I A = some (pbv (A (F (F b 6) 0)) n l) := by
  have hn := h.n16
  unfold f_X5_ofLicence
  refine (zb_s (s_needLicence h.1.1.2.2.1 hl)).trans ((zck_s (i32_in (by omega : l < 6) (by decide))).trans ((if_neg (by decide)).trans ((if_neg (by decide)).trans ((if_neg (by decide)).trans ((if_neg (by decide)).trans ((if_neg (by decide)).trans ((if_pos rfl).trans ?_)))))))
  refine zb_s ?_
  unfold f_X5_piecesBoundBy pbv
  refine zb2_s (zIt_fo (α := Int32) (n := n) _ (fun _ _ => True) (by omega) (fun acc _ => if_pos (by rw [h.i8]; exact le_t (Nat.le_refl n) (by omega))) (fun k acc hk _ => ⟨?_, trivial⟩) trivial).1
  refine (if_neg (by rw [h.i8]; exact le_f hk (by omega))).trans ((zb_s (s_licencesOf (Or.inr ⟨k, by omega, rfl⟩))).trans ?_)
  unfold pv
  rw [if_neg (i32_ne (by omega)), i32_nat (by omega)]
  refine (zb_s (s_hasBit (by omega))).trans ?_
  rw [i32_add1]
  cases hb (A (F (F b 6) 0) k) l <;> rfl
theorem s_olI (h : Inv F G b n I A) {l : Nat} (hl : l < 4) : f_X5_ofLicence F G b (i32 l) 0 I A = some (I (G (F b 4) l) 0) ∧ f_X5_ofLicence F G b (i32 l) 1 I A = some (I (G (F b 4) l) 1) ∧ f_X5_ofLicence F G b (i32 l) 2 I A = some (if I (G (F b 4) l) 2 = 0 then 0 else 1) := by
  have e0 : ∀ w : Int32, f_X5_ofLicence F G b (i32 l) w I A = _ := fun w => (zb_s (s_needLicence h.1.1.2.2.1 hl)).trans (zck_s (i32_in (by omega : l < 6) (by decide)))
  rw [i32_nat (by omega)] at e0
  refine ⟨(e0 0).trans (if_pos rfl), (e0 1).trans ((if_neg (by decide)).trans (if_pos rfl)), (e0 2).trans ((if_neg (by decide)).trans ((if_neg (by decide)).trans ((if_pos rfl).trans ?_)))⟩
  split <;> rfl
/-- a node's questions -/
theorem s_on (h : Inv F G b n I A) {p q : Nat} (hp : p < 2) (hq : q < 10) (hnode : hb (I (G (F b 5) p) 4) q = true) : f_X5_ofNode F G b (i32 p) (i32 q) 0 I A = some (A (F (G (F b 5) p) 0) q) ∧ f_X5_ofNode F G b (i32 p) (i32 q) 1 I A = some (A (F (G (F b 5) p) 2) q) ∧ f_X5_ofNode F G b (i32 p) (i32 q) 2 I A = some (pv (A (F (F b 6) 0)) (A (F (G (F b 5) p) 2) q)) ∧ f_X5_ofNode F G b (i32 p) (i32 q) 3 I A = some (clsP F G b p I A q) ∧ f_X5_ofNode F G b (i32 p) (i32 q) 4 I A = some (bcv (A (F (G (F b 5) p) 1) q)) := by
  have hc := h.1.2.2.2.2.2.2.con h.n16 hp
  have e0 : ∀ w : Int32, f_X5_ofNode F G b (i32 p) (i32 q) w I A = _ := fun w => (zb_s (s_needNode h hp hq hnode)).trans (zck_s (i32_in (by omega : p < 5) (by decide)))
  rw [i32_nat (by omega), i32_nat (by omega)] at e0
  have hin := i32_in2 hq (by decide : 10 < 2147483648)
  refine ⟨(e0 0).trans ((if_pos rfl).trans (zck_s hin)), (e0 1).trans ((if_neg (by decide)).trans ((if_pos rfl).trans (zck_s hin))), (e0 2).trans ((if_neg (by decide)).trans ((if_neg (by decide)).trans ((if_pos rfl).trans ((zck_s hin).trans (zb_s (s_licencesOf (hc q hq hnode))))))), (e0 3).trans ((if_neg (by decide)).trans ((if_neg (by decide)).trans ((if_neg (by decide)).trans ((if_pos rfl).trans ((zck_s hin).trans ?_))))), (e0 4).trans ((if_neg (by decide)).trans ((if_neg (by decide)).trans ((if_neg (by decide)).trans ((if_neg (by decide)).trans ((if_pos rfl).trans ((zck_s hin).trans (zb_s (s_bc _))))))))⟩
  refine (zb_s (s_clashesOf hq (hc q hq hnode) hc)).trans ?_
  unfold clsP clsv
  rw [if_pos hnode]
def subst1 (sh : Nat → Int32) (cl : Nat → Int32) (c k : Nat) (x : Int32 × Int32) : Int32 × Int32 := if k = c then x else if sh k ≤ x.2 then x else if cl k = 0 then (i32 k, sh k) else x
/-- what might stand in for a node's piece: another piece, that clashes with nothing there -/
theorem s_subst (h : Inv F G b n I A) {p q : Nat} (hp : p < 2) (hq : q < 10) (hnode : hb (I (G (F b 5) p) 4) q = true) :
    (A (F (G (F b 5) p) 2) q = -1 ∧ f_X5_substitute F G b (i32 p) (i32 q) I A = some (-1)) ∨ ∃ c, c < n ∧ A (F (G (F b 5) p) 2) q = i32 c ∧ f_X5_substitute F G b (i32 p) (i32 q) I A = some (zfo (subst1 (shv F G b A c) (fun k => clv (I (G (F b 5) p) 4) (A (F (G (F b 5) p) 1)) (A (F (G (F b 5) p) 2)) (A (F (F b 6) 0)) (A (F (F b 6) 2)) (A (F (F b 6) 3)) q (i32 k)) c) n (-1, -1)).1 := by
  have hn := h.n16
  have hc := h.1.2.2.2.2.2.2.con hn hp
  have e0 : f_X5_substitute F G b (i32 p) (i32 q) I A = _ := (zb_s (s_needNode h hp hq hnode)).trans ((zck_s (i32_in (by omega : p < 5) (by decide))).trans (zck_s (i32_in hq (by decide))))
  rw [i32_nat (by omega), i32_nat (by omega)] at e0
  rcases (h.1.2.2.2.2.2.2 p hp).2 q hq hnode with e | ⟨c, hc9, e⟩
  · exact Or.inl ⟨e, e0.trans (if_pos e)⟩
  · refine Or.inr ⟨c, hc9, e, e0.trans ((if_neg (by rw [e]; exact i32_ne (by omega))).trans ?_)⟩
    rw [e]
    generalize hst : subst1 (shv F G b A c) (fun k => clv (I (G (F b 5) p) 4) (A (F (G (F b 5) p) 1)) (A (F (G (F b 5) p) 2)) (A (F (F b 6) 0)) (A (F (F b 6) 2)) (A (F (F b 6) 3)) q (i32 k)) c = st
    have key := zIt_inv (fun x : Int32 × Int32 × Int32 => g_X5_substitute_38 F G b (i32 q) (G (F b 5) p) (i32 c) x.1 x.2.1 x.2.2 I A) n (fun k x => x = ((zfo st k (-1, -1)).1, (zfo st k (-1, -1)).2, i32 k)) (fun x => x.1 = (zfo st n (-1, -1)).1) (by omega) (fun k x hk hx => ?_) (fun x hx => ?_) (k0 := 0) (Nat.zero_le _) (x := (-1, -1, i32 0)) rfl
    · obtain ⟨⟨x1, x2, x3⟩, ez, g1⟩ := key
      simp only at g1
      subst g1
      exact zb3_s ez
    · subst hx
      generalize hz : zfo st k (-1, -1) = z
      have ez : zfo st (k + 1) (-1, -1) = st k z := by rw [← hz]; rfl
      have e1 : g_X5_substitute_38 F G b (i32 q) (G (F b 5) p) (i32 c) z.1 z.2 (i32 k) I A = _ := (if_neg (by rw [h.i8]; exact le_f hk (by omega))).trans ((zck_s (i32_in (by omega : c < 16) (by decide))).trans (zck_s (i32_in (by omega : k < 16) (by decide))))
      rw [i32_nat (by omega), i32_nat (by omega)] at e1
      refine ⟨_, e1.trans ?_, by rw [ez]⟩
      rw [← hst]
      unfold subst1
      by_cases h1 : k = c
      · subst h1
        rw [if_pos rfl, if_pos rfl, i32_add1]
      · rw [if_neg (fun w => h1 ((i32_inj (by omega) (by omega)).mp w)), if_neg h1]
        by_cases h2 : A (G (F b 2) c) k ≤ z.2
        · have h2' : shv F G b A c k ≤ z.2 := h2
          rw [if_pos h2, if_pos h2', i32_add1]
        · have h2' : ¬ shv F G b A c k ≤ z.2 := h2
          rw [if_neg h2, if_neg h2']
          refine (zb_s (s_clashesOf hq (Or.inr ⟨k, by omega, rfl⟩) hc)).trans ?_
          split
          · rw [i32_add1]
            rfl
          · rw [i32_add1]
    · subst hx
      exact ⟨_, if_pos (by rw [h.i8]; exact le_t (Nat.le_refl n) (by omega)), rfl⟩
theorem subst1_s (sh cl : Nat → Int32) (c n : Nat) : (zfo (subst1 sh cl c) n (-1, -1)).1 = -1 ∨ ∃ k, k < n ∧ k ≠ c ∧ (zfo (subst1 sh cl c) n (-1, -1)).1 = i32 k ∧ cl k = 0 := by
  induction n with
  | zero => exact Or.inl rfl
  | succ n ih =>
    show (subst1 sh cl c n (zfo (subst1 sh cl c) n (-1, -1))).1 = -1 ∨ ∃ k, k < n + 1 ∧ k ≠ c ∧ (subst1 sh cl c n (zfo (subst1 sh cl c) n (-1, -1))).1 = i32 k ∧ cl k = 0
    have ih' : (zfo (subst1 sh cl c) n (-1, -1)).1 = -1 ∨ ∃ k, k < n + 1 ∧ k ≠ c ∧ (zfo (subst1 sh cl c) n (-1, -1)).1 = i32 k ∧ cl k = 0 := ih.imp id fun ⟨k, h1, h2⟩ => ⟨k, by omega, h2⟩
    unfold subst1 at ih' ⊢
    split
    · exact ih'
    · rename_i h1
      split
      · exact ih'
      · split
        · rename_i h3
          exact Or.inr ⟨n, by omega, h1, rfl, h3⟩
        · exact ih'
end ZQU
