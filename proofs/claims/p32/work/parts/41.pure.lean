/-! isFair, but for its digests -/
section ZFA
variable {F G : Nat → Nat → Nat} {I A : zH} {b n : Nat} {ix : Nat → Nat}
theorem zfo_or (c : Nat → Bool) (S : Nat → Int32) (n : Nat) (x : Int32) (m : Nat) : hb (zfo (fun e acc => if c e then acc else acc ||| S e) n x) m = (hb x m || (List.range n).any fun e => !(c e) && hb (S e) m) := by
  induction n with
  | zero => simp [zfo]
  | succ n ih =>
    rw [List.range_succ, List.any_append, ← Bool.or_assoc, ← ih]
    show hb (if c n then zfo _ n x else zfo _ n x ||| S n) m = _
    cases h : c n
    · simp [h, hb_or]
    · simp [h]
theorem orv_own {own : Nat → Int32} {sh : Nat → Nat → Int32} {lim : Int32} {S : Nat → Int32} {i l : Nat} (hl : l < 32) (ho : own i = i32 l) : hb (orv own sh lim S i) l = true := by
  have e := zfo_or (fun e => decide (sh i e < lim)) S i (if own i = -1 then 0 else (1 : Int32) <<< (own i &&& 31)) l
  have e2 : orv own sh lim S i = zfo (fun e acc => if decide (sh i e < lim) = true then acc else acc ||| S e) i (if own i = -1 then 0 else (1 : Int32) <<< (own i &&& 31)) := by
    unfold orv
    exact zfo_cg (fun k a _ => by simp only [decide_eq_true_eq]) _
  rw [e2, e, ho, if_neg (i32_ne (by omega)), hb_one hl]
  simp
theorem orv_sh {own : Nat → Int32} {sh : Nat → Nat → Int32} {lim : Int32} {S : Nat → Int32} {i o m : Nat} (hoi : o < i) (hs : ¬ sh i o < lim) (hm : hb (S o) m = true) : hb (orv own sh lim S i) m = true := by
  have e := zfo_or (fun e => decide (sh i e < lim)) S i (if own i = -1 then 0 else (1 : Int32) <<< (own i &&& 31)) m
  have e2 : orv own sh lim S i = zfo (fun e acc => if decide (sh i e < lim) = true then acc else acc ||| S e) i (if own i = -1 then 0 else (1 : Int32) <<< (own i &&& 31)) := by
    unfold orv
    exact zfo_cg (fun k a _ => by simp only [decide_eq_true_eq]) _
  rw [e2, e, Bool.or_eq_true]
  refine Or.inr (List.any_eq_true.mpr ⟨o, List.mem_range.mpr hoi, ?_⟩)
  rw [decide_eq_false hs, hm]
  rfl
theorem Inv.S (h : Inv F G b n I A) {i : Nat} (hi : i < n) : A (F (F b 6) 0) i = orv (ownv F G b I) (shv F G b A) (i32 60) (nowS F G b I A (i32 60)) i &&& (I (G (F b 1) i) 2 ^^^ (-1)) := by
  rw [(h.2.2.1 i hi).1]
  exact bsv_eq _ _ _ _ i
theorem z_pow : ∀ k, k < 16 → (1 : Int32) <<< (i32 k &&& 31) = i32 (2 ^ k) := by decide +kernel
theorem s_many10 (h : Inv F G b n I A) : f_X5_many F G b 10 I A = some (i32 60) := by
  unfold f_X5_many
  refine (if_neg (by decide)).trans ((if_neg (by decide)).trans ((if_neg (by decide)).trans ((if_neg (by decide)).trans ((if_neg (by decide)).trans ((if_neg (by decide)).trans ((if_neg (by decide)).trans ((if_neg (by decide)).trans ((if_neg (by decide)).trans ((if_neg (by decide)).trans ((if_pos rfl).trans ?_))))))))))
  rw [h.1.1.2.2.2.2]
theorem hb_offv (og : Nat → Int32) {o k n : Nat} (hn : n ≤ 16) (hk : k < n) (hok : o < k) : hb (offv og o n) k = hb (og k) o := by
  unfold offv
  rw [hb_zset _ (by omega), decide_eq_true hk, decide_eq_true hok]
  simp
theorem s_116 (h : Inv F G b n I A) {v1 : Int64} {k : Nat} (hk : k < n) : ∃ r, zIt (fun x => g_L_isFair_116 F G b v1 (i32 n) (i32 k) x I A) 2000 0 = some r := by
  have hn := h.n16
  have key := zIt_inv (fun x => g_L_isFair_116 F G b v1 (i32 n) (i32 k) x I A) k (fun o x => x = i32 o) (fun _ => True) (by omega) (fun o x ho hx => ?_) (fun x hx => ?_) (k0 := 0) (Nat.zero_le _) (x := i32 0) rfl
  · obtain ⟨r, e, -⟩ := key
    exact ⟨r, e⟩
  · subst hx
    obtain ⟨q, q1, q2, q3⟩ := h.1.2.2.2.1.1 k o hk (by omega)
    have hbits : ((A (F b 3) k >>> (i32 o &&& 31)) &&& 1) = ((offv (A (F b 3)) o n >>> (i32 k &&& 31)) &&& 1) := (hb_eq (by omega) (by omega)).mpr (hb_offv _ hn hk ho).symm
    refine ⟨i32 (o + 1), ?_, rfl⟩
    have ho' : o < n := by omega
    have e0 : g_L_isFair_116 F G b v1 (i32 n) (i32 k) (i32 o) I A = _ := (if_neg (le_f ho (by omega))).trans ((zb_s (s_share h hk ho')).trans (zb_s (s_share h ho' hk)))
    rw [q2, q3] at e0
    refine e0.trans ((if_pos rfl).trans ((if_neg (i32_nn (by omega))).trans ((if_neg (fun w => by
      have := (i32_lt (a := 100) (by decide) (by omega)).mp w
      omega)).trans ((zb_s (s_many10 h)).trans ?_))))
    by_cases hlt : q < 60
    · refine (if_pos ((i32_lt (by omega) (by decide)).mpr hlt)).trans ((zb_s (s_op5 h hk)).trans ((zb_s (s_op6 h ho')).trans ((if_pos hbits).trans ?_)))
      rw [i32_add1]
    · have hnl : ¬ shv F G b A k o < i32 60 := by
        rw [q2]
        exact fun w => hlt ((i32_lt (by omega) (by decide)).mp w)
      have hog : hb (A (F b 3) k) o = true := (h.2.1 k hk).2 o ho (by rw [h.1.1.2.2.2.2]; exact hnl)
      refine (if_neg (fun w => hlt ((i32_lt (by omega) (by decide)).mp w))).trans ((zb_s (s_op5 h hk)).trans ((if_neg (fun w => by
        rw [(hb_f (by omega)).mp w] at hog
        cases hog)).trans ((zb_s (s_op3 h ho')).trans ((zb_s (s_op3 h hk)).trans ((zb_s (s_op4 h hk)).trans ((if_pos ?_).trans ((zb_s (s_op5 h hk)).trans ((zb_s (s_op6 h ho')).trans ((if_pos hbits).trans ?_)))))))))
      · refine hb_e.mpr fun m hm => ?_
        rw [hb_and, hb_and, hb_not _ hm, hb_not _ hm]
        cases hSo : hb (A (F (F b 6) 0) o) m with
        | false => rfl
        | true =>
          have h1 := orv_sh (own := ownv F G b I) (S := nowS F G b I A (i32 60)) (m := m) ho hnl (by rw [← (h.2.2.1 o ho').1]; exact hSo)
          rw [h.S hk, hb_and, h1, hb_not _ hm]
          cases hb (I (G (F b 1) k) 2) m <;> rfl
      · rw [i32_add1]
  · subst hx
    exact ⟨_, if_pos (le_t (Nat.le_refl k) (by omega)), trivial⟩
theorem s_14 (h : Inv F G b n I A) {v1 : Int64} : ∃ r, zIt (fun x => g_L_isFair_14 F G b v1 (i32 n) x I A) 2000 0 = some r := by
  have hn := h.n16
  have key := zIt_inv (fun x => g_L_isFair_14 F G b v1 (i32 n) x I A) n (fun o x => x = i32 o) (fun _ => True) (by omega) (fun k x hk hx => ?_) (fun x hx => ?_) (k0 := 0) (Nat.zero_le _) (x := i32 0) rfl
  · obtain ⟨r, e, -⟩ := key
    exact ⟨r, e⟩
  · subst hx
    obtain ⟨r, er⟩ := s_116 h (v1 := v1) hk
    refine ⟨i32 (k + 1), ?_, rfl⟩
    have e0 : g_L_isFair_14 F G b v1 (i32 n) (i32 k) I A = _ := (if_neg (le_f hk (by omega))).trans (zb_s (s_share h hk hk))
    have hdis : A (F (F b 6) 0) k &&& I (G (F b 1) k) 2 = 0 := hb_e.mpr fun m hm => by
      rw [hb_and, h.S hk, hb_and, hb_not _ hm]
      cases hb (I (G (F b 1) k) 2) m <;> simp
    have hlt : A (F b 3) k < (1 : Int32) <<< (i32 k &&& 31) := by
      obtain ⟨m, hm, e⟩ := hbIn_lt (by omega) (h.2.1 k hk).1
      have h2 : 2 ^ k ≤ 2 ^ 16 := Nat.pow_le_pow_right (by decide) (by omega)
      have h3 : (2 : Nat) ^ 16 = 65536 := by decide
      rw [e, z_pow k (by omega)]
      exact (i32_lt (by omega) (by omega)).mpr hm
    refine e0.trans ((if_pos (h.1.2.2.2.1.2 k hk)).trans ((zb_s (s_op3 h hk)).trans ((zb_s (s_op4 h hk)).trans ((if_pos hdis).trans ((zb_s (s_op5 h hk)).trans ((if_pos hlt).trans ((zb_s (s_op2 h hk)).trans ?_)))))))
    rcases h.1.2.2.2.2.1 k (by omega) with ho | ⟨l, hl, ho⟩
    · have ho' : I (G (F b 1) k) 1 = -1 := ho
      rw [ho']
      refine (if_pos (by decide)).trans ((zb_s er).trans ?_)
      rw [i32_add1]
    · have ho' : I (G (F b 1) k) 1 = i32 l := ho
      rw [ho']
      refine (if_neg (i32_nn (by omega))).trans ((zb_s (s_op3 h hk)).trans ?_)
      by_cases hb1 : hb (A (F (F b 6) 0) k) l = true
      · refine (if_neg (fun w => by
          rw [(hb_f (by omega)).mp w] at hb1
          cases hb1)).trans ((zb_s er).trans ?_)
        rw [i32_add1]
      · refine (if_pos ((hb_f (by omega)).mpr (Bool.eq_false_iff.mpr hb1))).trans ((zb_s (s_op4 h hk)).trans ((if_neg (fun w => ?_)).trans ((zb_s er).trans ?_)))
        · apply hb1
          rw [h.S hk, hb_and, orv_own (by omega) ho, hb_not _ (by omega), (hb_f (by omega)).mp w]
          rfl
        · rw [i32_add1]
  · subst hx
    exact ⟨_, if_pos (le_t (Nat.le_refl n) (by omega)), trivial⟩
theorem s_261 (h : Inv F G b n I A) {v1 : Int64} : ∃ r, zIt (fun x => g_L_isFair_261 F G b v1 x I A) 2000 0 = some r := by
  have key := zIt_inv (fun x => g_L_isFair_261 F G b v1 x I A) 4 (fun o x => x = i32 o) (fun _ => True) (by decide) (fun l x hl hx => ?_) (fun x hx => ?_) (k0 := 0) (Nat.zero_le _) (x := i32 0) rfl
  · obtain ⟨r, e, -⟩ := key
    exact ⟨r, e⟩
  · subst hx
    have inner := zIt_inv (fun x => g_L_isFair_270 F G b v1 (i32 l) x I A) 4 (fun o x => x = i32 o) (fun _ => True) (by decide) (fun m x hm hx => ?_) (fun x hx => ?_) (k0 := 0) (Nat.zero_le _) (x := i32 0) rfl
    · obtain ⟨r, e, -⟩ := inner
      refine ⟨i32 (l + 1), (if_neg (le_f (n := 4) hl (by decide))).trans ((zb_s e).trans ?_), rfl⟩
      rw [i32_add1]
    · subst hx
      refine ⟨i32 (m + 1), (if_neg (le_f (n := 4) hm (by decide))).trans ((zb_s (s_ol4 h hl)).trans ((zb_s (s_ol4 h hm)).trans ((if_pos ?_).trans ?_))), rfl⟩
      · exact (hb_eq (by omega) (by omega)).mpr ((h.1.2.2.2.2.2.1 l (by omega)).2 m (by omega))
      · rw [i32_add1]
    · subst hx
      exact ⟨_, if_pos (le_t (Nat.le_refl 4) (by decide)), trivial⟩
  · subst hx
    exact ⟨_, if_pos (le_t (Nat.le_refl 4) (by decide)), trivial⟩
theorem z_cw : ∀ c, c < 101 → ∀ d, d < 11 → (i32 c - i32 d) + 0 ≤ i32 c := by decide +kernel
theorem s_320 (h : Inv F G b n I A) {v1 : Int64} : ∃ r, zIt (fun x => g_L_isFair_320 F G b v1 x I A) 2000 0 = some r := by
  have hn := h.n16
  have key := zIt_inv (fun x => g_L_isFair_320 F G b v1 x I A) 2 (fun o x => x = i32 o) (fun _ => True) (by decide) (fun p x hp hx => ?_) (fun x hx => ?_) (k0 := 0) (Nat.zero_le _) (x := i32 0) rfl
  · obtain ⟨r, e, -⟩ := key
    exact ⟨r, e⟩
  · subst hx
    have hc := (h.1.2.2.2.2.2.2 p hp).2
    have inner := zIt_inv (fun x => g_L_isFair_329 F G b v1 (i32 p) x I A) 10 (fun o x => x = i32 o) (fun _ => True) (by decide) (fun q x hq hx => ?_) (fun x hx => ?_) (k0 := 0) (Nat.zero_le _) (x := i32 0) rfl
    · obtain ⟨r, e, -⟩ := inner
      refine ⟨i32 (p + 1), (if_neg (le_f (n := 2) hp (by decide))).trans ((zb_s e).trans ?_), rfl⟩
      rw [i32_add1]
    · subst hx
      refine ⟨i32 (q + 1), ?_, rfl⟩
      have e0 : g_L_isFair_329 F G b v1 (i32 p) (i32 q) I A = _ := (if_neg (le_f (n := 10) hq (by decide))).trans (zb_s (s_of6 h hp))
      by_cases hnode : hb (I (G (F b 5) p) 4) q = true
      · obtain ⟨-, o1, -, o3, -⟩ := s_on h hp hq hnode
        have third := zIt_inv (fun x => g_L_isFair_369 F G b v1 (i32 p) (i32 q) (clsP F G b p I A q) x I A) 10 (fun o x => x = i32 o) (fun _ => True) (by decide) (fun m x hm hx => ?_) (fun x hx => ?_) (k0 := 0) (Nat.zero_le _) (x := i32 0) rfl
        · obtain ⟨r, e, -⟩ := third
          refine e0.trans ((if_neg (fun w => by
            rw [(hb_f (by omega)).mp w] at hnode
            cases hnode)).trans ((zb_s o3).trans ((zb_s e).trans ?_)))
          rcases s_subst h hp hq hnode with ⟨-, es⟩ | ⟨c, hcn, ec, es⟩
          · refine (zb_s es).trans ((if_pos (by decide)).trans ?_)
            rw [i32_add1]
          · rcases subst1_s (shv F G b A c) (fun k => clv (I (G (F b 5) p) 4) (A (F (G (F b 5) p) 1)) (A (F (G (F b 5) p) 2)) (A (F (F b 6) 0)) (A (F (F b 6) 2)) (A (F (F b 6) 3)) q (i32 k)) c n with z | ⟨k, hk, hkc, z, zc⟩
            · rw [z] at es
              refine (zb_s es).trans ((if_pos (by decide)).trans ?_)
              rw [i32_add1]
            · rw [z] at es
              have econ := h.1.2.2.2.2.2.2.con hn hp
              obtain ⟨cc, cc1, cc2, -⟩ := cntv_s (I (G (F b 5) p) 4) (A (F (G (F b 5) p) 1)) (A (F (G (F b 5) p) 2)) (A (F (F b 6) 0)) (A (F (F b 6) 2)) (A (F (F b 6) 3))
              obtain ⟨d, d1, d2, -⟩ := bcv_s (clv_in (I (G (F b 5) p) 4) (A (F (G (F b 5) p) 1)) (A (F (G (F b 5) p) 2)) (A (F (F b 6) 0)) (A (F (F b 6) 2)) (A (F (F b 6) 3)) q (A (F (G (F b 5) p) 2) q))
              have ew : f_X5_clashesWith F G b (i32 p) (i32 q) (i32 k) I A = some ((i32 cc - i32 d) + 0) := by
                unfold f_X5_clashesWith
                refine (zb_s (s_needNode h hp hq hnode)).trans ((zb_s (s_needPiece hn h.i8 hk)).trans ((zck_s (i32_in (by omega : p < 5) (by decide))).trans ((zck_s (i32_in hq (by decide))).trans ?_)))
                rw [i32_nat (by omega), i32_nat (by omega)]
                refine (zb_s (s_clashesOf hq (econ q hq hnode) econ)).trans ((zb_s (s_clashesOf hq (Or.inr ⟨k, by omega, rfl⟩) econ)).trans ((zb_s (s_countClashes econ)).trans ((zb_s (s_bc _)).trans ((zb_s (s_bc _)).trans ?_))))
                rw [cc2, d2, zc, show bcv 0 = 0 from by decide]
              refine (zb_s es).trans ((if_neg (i32_nn (by omega))).trans ((zb_s o1).trans ((if_neg (fun w => ?_)).trans ((zb_s ew).trans ((zb_s (s_of2 h hp)).trans ((if_pos ?_).trans ?_))))))
              · rw [ec] at w
                exact hkc ((i32_inj (by omega) (by omega)).mp w)
              · rw [cc2]
                exact z_cw cc (by omega) d (by omega)
              · rw [i32_add1]
        · subst hx
          refine ⟨i32 (m + 1), ?_, rfl⟩
          have e1 : g_L_isFair_369 F G b v1 (i32 p) (i32 q) (clsP F G b p I A q) (i32 m) I A = _ := if_neg (le_f (n := 10) hm (by decide))
          by_cases hbm : hb (clsP F G b p I A q) m = true
          · have hbm2 := hbm
            unfold clsP clsv at hbm2
            rw [if_pos hnode] at hbm2
            have hbm3 := hbm2
            rw [hb_clv, Bool.and_eq_true, Bool.and_eq_true] at hbm3
            have nm := hbm3.2.1
            obtain ⟨-, -, -, om3, -⟩ := s_on h hp hm nm
            refine e1.trans ((if_pos ((hb_t (by omega)).mpr hbm)).trans ((zb_s om3).trans ((if_neg (fun w => ?_)).trans (by rw [i32_add1]))))
            have w2 := (hb_f (by omega)).mp w
            unfold clsP clsv at w2
            rw [if_pos nm, clv_sym hn h.sym hc hq hm hnode nm, hbm2] at w2
            cases w2
          · exact e1.trans ((if_neg (fun w => hbm ((hb_t (by omega)).mp w))).trans (by rw [i32_add1]))
        · subst hx
          exact ⟨_, if_pos (le_t (Nat.le_refl 10) (by decide)), trivial⟩
      · exact e0.trans ((if_pos ((hb_f (by omega)).mpr (Bool.eq_false_iff.mpr hnode))).trans (by rw [i32_add1]))
    · subst hx
      exact ⟨_, if_pos (le_t (Nat.le_refl 10) (by decide)), trivial⟩
  · subst hx
    exact ⟨_, if_pos (le_t (Nat.le_refl 2) (by decide)), trivial⟩
end ZFA
