/-! the start: four licences, two projects -/
section ZSB2
variable {F G : Nat → Nat → Nat} {I A : zH} {b : Nat} {ix : Nat → Nat}
def rivOk (riv : Nat → Int32) (k : Nat) : Prop := ∀ l, l < 6 → hbIn (riv l) k ∧ ∀ m, m < 6 → hb (riv l) m = hb (riv m) l
/-- before there are projects: k licences -/
def St (F G : Nat → Nat → Nat) (b k : Nat) (I A : zH) : Prop := I b 8 = i32 0 ∧ I b 9 = i32 k ∧ I b 10 = i32 0 ∧ I b 12 = i32 60 ∧ (I (F b 0) 2 = i32 0 ∧ I (F b 0) 3 = i32 0) ∧ (∀ i, i < 16 → I (G (F b 1) i) 1 = -1) ∧ rivOk (licv F G b I 4) k ∧ ∀ p, p < 2 → I (G (F b 5) p) 4 = i32 1 ∧ I (G (F b 5) p) 6 = 0 ∧ A (F (G (F b 5) p) 2) 0 = -1
theorem s_takeRivals (ad : AD F G b ix) {k : Nat} (hk : k < 4) (h : rivOk (licv F G b I 4) k) : ∃ I', f_X5_takeRivals F G b (i32 k) I A = some I' ∧ (∀ a j, (∀ l, l < 6 → a ≠ G (F b 4) l) ∨ j ≠ 4 → I' a j = I a j) ∧ rivOk (licv F G b I' 4) (k + 1) := by
  unfold f_X5_takeRivals
  have lne : ∀ l m, l < 6 → m < 6 → l ≠ m → G (F b 4) l ≠ G (F b 4) m := fun l m hl hm q => ad_ne (ad.lc hl) (ad.lc hm) (by omega)
  have hnk : (i32 k).toNatClampNeg = k := i32_nat (by omega)
  have key := zIt_inv (fun x : Int32 × zH => g_X5_takeRivals_9 F G b (i32 k) (G (F b 4) k) x.1 x.2 A) (k + 1) (fun o x => x.1 = i32 o ∧ (∀ a j, (∀ l, l < 6 → a ≠ G (F b 4) l) ∨ j ≠ 4 → x.2 a j = I a j) ∧ rivOk (licv F G b x.2 4) (k + 1)) (fun x => (∀ a j, (∀ l, l < 6 → a ≠ G (F b 4) l) ∨ j ≠ 4 → x.2 a j = I a j) ∧ rivOk (licv F G b x.2 4) (k + 1)) (by omega) (fun o x ho hx => ?_) (fun x hx => ?_) (k0 := 0) (Nat.zero_le _) (x := (i32 0, I)) ⟨rfl, fun _ _ _ => rfl, fun l hl => ⟨fun m hm => (h l hl).1 m (by omega), (h l hl).2⟩⟩
  · obtain ⟨⟨x1, I'⟩, e, g⟩ := key
    refine ⟨I', (zck_s (i32_in (by omega : k < 6) (by decide))).trans ?_, g⟩
    rw [hnk]
    exact zb2_s e
  · obtain ⟨x1, X⟩ := x
    obtain ⟨g1, g2, g3⟩ := hx
    simp only at g1 g2 g3
    subst g1
    have ho6 : o < 6 := by omega
    have hk6 : k < 6 := by omega
    have hlt : ¬ i32 k < i32 o := fun q => by
      have := (i32_lt (by omega) (by omega)).mp q
      omega
    have e0 : g_X5_takeRivals_9 F G b (i32 k) (G (F b 4) k) (i32 o) X A = _ := (if_neg hlt).trans (zck_s (i32_in ho6 (by decide)))
    rw [i32_nat (by omega)] at e0
    have er : ∃ v : Bool, f_X1_isRivalOf F G (G (F b 4) k) (G (F b 4) o) X A = some (bit1 v) := by
      unfold f_X1_isRivalOf
      split
      · split
        · exact ⟨false, rfl⟩
        · exact ⟨true, rfl⟩
      · exact ⟨true, rfl⟩
    obtain ⟨v, er⟩ := er
    cases v with
    | false => exact ⟨(i32 (o + 1), X), e0.trans ((zb_s er).trans ((if_pos rfl).trans (by rw [i32_add1]))), rfl, g2, g3⟩
    | true =>
      generalize hY : up2 X (G (F b 4) k) 4 (X (G (F b 4) k) 4 ||| ((1 : Int32) <<< (i32 o &&& 31))) = Y
      have rd : ∀ l, l < 6 → ∀ m, hb (licv F G b (up2 Y (G (F b 4) o) 4 (Y (G (F b 4) o) 4 ||| ((1 : Int32) <<< (i32 k &&& 31)))) 4 l) m = (hb (licv F G b X 4 l) m || (decide (l = k) && decide (m = o)) || (decide (l = o) && decide (m = k))) := fun l hl m => by
        have hYl : ∀ l, l < 6 → hb (Y (G (F b 4) l) 4) m = (hb (licv F G b X 4 l) m || (decide (l = k) && decide (m = o))) := fun l hl => by
          rw [← hY]
          by_cases hlk : l = k
          · subst hlk
            rw [up2_at, hb_or, hb_one (by omega)]
            simp [licv]
          · rw [up2_a _ _ _ _ (lne l k hl hk6 hlk)]
            simp [licv, hlk]
        unfold licv
        by_cases hlo : l = o
        · subst hlo
          rw [up2_at, hb_or, hb_one (by omega), hYl l hl]
          simp [licv]
        · rw [up2_a _ _ _ _ (lne l o hl ho6 hlo), hYl l hl]
          simp [licv, hlo]
      refine ⟨(i32 (o + 1), up2 Y (G (F b 4) o) 4 (Y (G (F b 4) o) 4 ||| ((1 : Int32) <<< (i32 k &&& 31)))), e0.trans ((zb_s er).trans ((if_neg (by decide)).trans ?_)), rfl, fun a j hq => ?_, fun l hl => ⟨fun m hm => ?_, fun m hm => ?_⟩⟩
      · unfold zlet
        dsimp only
        rw [hY]
        refine (zck_s (i32_in2 ho6 (by decide))).trans ?_
        rw [i32_add1]
      · dsimp only
        rw [← hY]
        rcases hq with hq | hq
        · rw [up2_a _ _ _ _ (hq o ho6), up2_a _ _ _ _ (hq k hk6)]
          exact g2 a j (Or.inl hq)
        · have : ∀ (Z : zH) (c : Nat) (w : Int32), up2 Z c 4 w a j = Z a j := fun Z c w => by
            by_cases hac : a = c
            · subst hac
              exact up2_k _ _ _ hq
            · exact up2_a _ _ _ _ hac
          rw [this, this]
          exact g2 a j (Or.inr hq)
      · dsimp only
        rw [rd l hl, (g3 l hl).1 m hm]
        have h1 : ¬ m = o := by omega
        have h2 : ¬ m = k := by omega
        simp [h1, h2]
      · dsimp only
        rw [rd l hl, rd m hm, (g3 l hl).2 m hm]
        cases hb (licv F G b X 4 m) l <;> by_cases h1 : l = k <;> by_cases h2 : m = o <;> by_cases h3 : l = o <;> by_cases h4 : m = k <;> simp [h1, h2, h3, h4] <;> omega
  · obtain ⟨x1, X⟩ := x
    obtain ⟨g1, g⟩ := hx
    simp only at g1
    subst g1
    exact ⟨_, if_pos ((i32_lt (by omega) (by omega)).mpr (by omega)), g⟩
theorem z_and32 {a c : Nat} (ha : a < 32) (hc : c < 32) : ∃ m, m < 32 ∧ i32 a &&& i32 c = i32 m := by
  refine ⟨a &&& c, Nat.lt_of_le_of_lt Nat.and_le_left ha, ?_⟩
  have h2 : a &&& c < 32 := Nat.lt_of_le_of_lt Nat.and_le_left ha
  apply hb_ext
  intro j _
  rw [hb_and, hb_i32 j (by omega), hb_i32 j (by omega), hb_i32 j (by omega), Nat.testBit_and]
theorem s_licence (ad : AD F G b ix) {k x y z w : Nat} (h : St F G b k I A) (hk : k < 4) (hx : x < 32) (hy : y < 32) (hz : z < 2) (hw : w < 3) : ∃ I' A', f_X5_licence F G b (i32 x) (i32 y) (i32 z) (i32 w) I A = some (i32 k, I', A') ∧ St F G b (k + 1) I' A' := by
  obtain ⟨h1, h2, h3, h4, h5, h6, h7, h8⟩ := h
  have hk6 : k < 6 := by omega
  have lb : G (F b 4) k ≠ b := ad_ne (ad.lc hk6) ad.b0 (by omega)
  generalize hJ : up2 (up2 (up2 (up2 (up2 I (G (F b 4) k) 0 (i32 x)) (G (F b 4) k) 1 (i32 y)) (G (F b 4) k) 2 (i32 z)) (G (F b 4) k) 3 (i32 w)) b 9 (i32 (k + 1)) = J
  have jO : ∀ a, a ≠ b → a ≠ G (F b 4) k → J a = I a := fun a q1 q2 => by rw [← hJ, up2_f _ _ _ q1, up2_f _ _ _ q2, up2_f _ _ _ q2, up2_f _ _ _ q2, up2_f _ _ _ q2]
  have jB : ∀ j, j ≠ 9 → J b j = I b j := fun j hj => by rw [← hJ, up2_k _ _ _ hj, up2_a _ _ _ _ lb.symm, up2_a _ _ _ _ lb.symm, up2_a _ _ _ _ lb.symm, up2_a _ _ _ _ lb.symm]
  have j9 : J b 9 = i32 (k + 1) := by rw [← hJ, up2_at]
  have jL : ∀ l, l < 6 → J (G (F b 4) l) 4 = I (G (F b 4) l) 4 := fun l hl => by
    by_cases hlk : l = k
    · subst hlk
      rw [← hJ, up2_a _ _ _ _ lb, up2_k _ _ _ (by decide), up2_k _ _ _ (by decide), up2_k _ _ _ (by decide), up2_k _ _ _ (by decide)]
    · rw [jO _ (ad_ne (ad.lc hl) ad.b0 (by omega)) (ad_ne (ad.lc hl) (ad.lc hk6) (by omega))]
  obtain ⟨I1, e1, i1, r1⟩ := s_takeRivals (A := A) ad hk (I := J) (fun l hl => by
    have e : ∀ l, l < 6 → licv F G b J 4 l = licv F G b I 4 l := jL
    refine ⟨by rw [e l hl]; exact (h7 l hl).1, fun m hm => ?_⟩
    rw [e l hl, e m hm]
    exact (h7 l hl).2 m hm)
  have i1B : ∀ j, I1 b j = J b j := fun j => i1 _ _ (Or.inl fun l hl => ad_ne ad.b0 (ad.lc hl) (by omega))
  obtain ⟨I2, A2, e2, a2, -, -, -, i2, -⟩ := s_settle (F := F) (G := G) (I := I1) (A := A) (n := 0) (pn := 0) ad (by decide) (by decide) (by rw [i1B, jB 8 (by decide)]; exact h1) (by rw [i1B, jB 10 (by decide)]; exact h3) (fun p hp => by omega)
  have i2' : ∀ a j, I2 a j = I1 a j := fun a j => i2 a j (Or.inl fun p hp => by omega)
  have iO : ∀ a, a ≠ b → (∀ l, l < 6 → a ≠ G (F b 4) l) → ∀ j, I2 a j = I a j := fun a q1 q2 j => by rw [i2', i1 _ _ (Or.inl q2), jO a q1 (q2 k hk6)]
  refine ⟨I2, A2, ?_, by rw [i2', i1B, jB 8 (by decide)]; exact h1, by rw [i2', i1B]; exact j9, by rw [i2', i1B, jB 10 (by decide)]; exact h3, by rw [i2', i1B, jB 12 (by decide)]; exact h4, ?_, fun i hi => ?_, fun l hl => ?_, fun p hp => ?_⟩
  · unfold f_X5_licence
    refine (if_neg (i32_nn (by omega))).trans ((if_neg (le_f (n := 32) hx (by decide))).trans ((if_neg (i32_nn (by omega))).trans ((if_pos ((i32_lt (b := 32) (by omega) (by decide)).mpr hy)).trans ((if_neg (i32_nn (by omega))).trans ((if_pos ((i32_le (b := 5) (by omega) (by decide)).mpr (by omega))).trans ((if_pos (by rw [h2]; exact (i32_lt (b := 6) (by omega) (by decide)).mpr hk6)).trans ((zck_s (by rw [h2]; exact i32_in hk6 (by decide))).trans ?_)))))))
    rw [h2, i32_nat (by omega)]
    unfold zlet
    dsimp only
    refine (zck_s ?_).trans ?_
    · match z, hz with
      | 0, _ => exact Or.inl rfl
      | 1, _ => exact Or.inr rfl
    rw [i32_add1, hJ]
    exact (zb_s e1).trans (zb3_s e2)
  · have z : ∀ j, I2 (F b 0) j = I (F b 0) j := iO _ (ad_ne ad.d ad.b0 (by decide)) (fun l hl => ad_ne ad.d (ad.lc hl) (by omega))
    rw [z, z]
    exact h5
  · rw [iO _ (ad_ne (ad.pc hi) ad.b0 (by omega)) (fun l hl => ad_ne (ad.pc hi) (ad.lc hl) (by omega))]
    exact h6 i hi
  · have e : ∀ l, licv F G b I2 4 l = licv F G b I1 4 l := fun l => i2' _ _
    refine ⟨by rw [e]; exact (r1 l hl).1, fun m hm => ?_⟩
    rw [e, e]
    exact (r1 l hl).2 m hm
  · have hp5 : p < 5 := by omega
    have z : ∀ j, I2 (G (F b 5) p) j = I (G (F b 5) p) j := iO _ (ad_ne (ad.pj hp5) ad.b0 (by omega)) (fun l hl => ad_ne (ad.pj hp5) (ad.lc hl) (by omega))
    have hb4 : ∀ j, j < 4 → F (G (F b 5) p) 2 ≠ F (F b 6) j := fun j hj => ad_ne (ad.pa hp5 (by decide : 2 < 4)) (ad.bd hj) (by omega)
    rw [z, z, a2 _ (ad_ne (ad.pa hp5 (by decide : 2 < 4)) ad.og (by omega)) (hb4 0 (by decide)) (hb4 1 (by decide)) (hb4 2 (by decide)) (hb4 3 (by decide))]
    exact h8 p hp
theorem s_lic4 (ad : AD F G b ix) (h : St F G b 0 I A) {Ln : Nat} {xs : Nat → Int32} (hL : Ln ≤ 260) : ∃ I' A', zIt (fun x => g_L_law_10 F G Ln xs b x.1 x.2.1 x.2.2) 2000 (0, I, A) = some (i32 4, I', A') ∧ St F G b 4 I' A' := by
  have key := zIt_inv (fun x : Int32 × zH × zH => g_L_law_10 F G Ln xs b x.1 x.2.1 x.2.2) 4 (fun k x => x.1 = i32 k ∧ St F G b k x.2.1 x.2.2) (fun x => x.1 = i32 4 ∧ St F G b 4 x.2.1 x.2.2) (by decide) (fun k x hk hx => ?_) (fun x hx => ?_) (k0 := 0) (by decide) (x := (i32 0, I, A)) ⟨rfl, h⟩
  · obtain ⟨⟨x1, I', A'⟩, e, g1, g2⟩ := key
    simp only at g1
    subst g1
    exact ⟨I', A', e, g2⟩
  · obtain ⟨x1, I1, A1⟩ := x
    obtain ⟨g1, g2⟩ := hx
    simp only at g1 g2
    subst g1
    have p1 : i32 k + 1 = i32 (k + 1) := i32_add1 k
    have p2 : i32 k + 2 = i32 (k + 2) := i32_add k 2
    obtain ⟨c0, ec0⟩ := s_cell (F := F) (G := G) (I := I1) (A := A1) (xs := xs) hL (k := k) (by omega)
    obtain ⟨c1, ec1⟩ := s_cell (F := F) (G := G) (I := I1) (A := A1) (xs := xs) hL (k := k + 1) (by omega)
    obtain ⟨c2, ec2⟩ := s_cell (F := F) (G := G) (I := I1) (A := A1) (xs := xs) hL (k := k + 2) (by omega)
    obtain ⟨a1, ha1, ea1⟩ := s_below (F := F) (G := G) (I := I1) (A := A1) c0 (m := 32) (by decide) (by decide)
    obtain ⟨a2, ha2, ea2⟩ := s_below (F := F) (G := G) (I := I1) (A := A1) (c1 >>> (3 &&& 31)) (m := 32) (by decide) (by decide)
    obtain ⟨a3, ha3, ea3⟩ := s_below (F := F) (G := G) (I := I1) (A := A1) (c0 >>> (5 &&& 31)) (m := 32) (by decide) (by decide)
    obtain ⟨a4, ha4, ea4⟩ := s_below (F := F) (G := G) (I := I1) (A := A1) (c2 >>> (2 &&& 31)) (m := 32) (by decide) (by decide)
    obtain ⟨a5, ha5, ea5⟩ := s_below (F := F) (G := G) (I := I1) (A := A1) (c0 >>> (4 &&& 31)) (m := 3) (by decide) (by decide)
    obtain ⟨a6, ha6, ea6⟩ := s_below (F := F) (G := G) (I := I1) (A := A1) (c0 >>> (6 &&& 31)) (m := 3) (by decide) (by decide)
    obtain ⟨m1, hm1, em1⟩ := z_and32 ha1 ha2
    obtain ⟨m2, hm2, em2⟩ := z_and32 ha3 ha4
    have e0 : g_L_law_10 F G Ln xs b (i32 k) I1 A1 = _ := (if_neg (le_f (n := 4) hk (by decide))).trans ((zb_s ec0).trans ((zb_s ea1).trans (zb_s (by rw [p1]; exact ec1))))
    by_cases h0 : i32 a5 = 0
    · obtain ⟨I2, A2, e2, s2⟩ := s_licence ad g2 hk hm1 hm2 (by decide : 1 < 2) ha6
      refine ⟨(i32 (k + 1), I2, A2), e0.trans ((zb_s ea2).trans ((zb_s ec0).trans ((zb_s ea3).trans ((zb_s (by rw [p2]; exact ec2)).trans ((zb_s ea4).trans ((zb_s ec0).trans ((zb_s ea5).trans ((if_pos h0).trans ((zb_s ec0).trans ((zb_s ea6).trans ?_)))))))))), rfl, s2⟩
      rw [em1, em2]
      refine (zb3_s e2).trans ((if_pos rfl).trans ?_)
      rw [p1]
    · obtain ⟨I2, A2, e2, s2⟩ := s_licence ad g2 hk hm1 hm2 (by decide : 0 < 2) ha6
      refine ⟨(i32 (k + 1), I2, A2), e0.trans ((zb_s ea2).trans ((zb_s ec0).trans ((zb_s ea3).trans ((zb_s (by rw [p2]; exact ec2)).trans ((zb_s ea4).trans ((zb_s ec0).trans ((zb_s ea5).trans ((if_neg h0).trans ((zb_s ec0).trans ((zb_s ea6).trans ?_)))))))))), rfl, s2⟩
      rw [em1, em2]
      refine (zb3_s e2).trans ((if_pos rfl).trans ?_)
      rw [p1]
  · obtain ⟨x1, I1, A1⟩ := x
    obtain ⟨g1, g⟩ := hx
    simp only at g1
    subst g1
    exact ⟨_, if_pos (le_t (Nat.le_refl 4) (by decide)), rfl, g⟩
end ZSB2
