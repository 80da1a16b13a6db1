/-! settle, whole -/
section ZST
variable {F G : Nat → Nat → Nat} {I A : zH}
/-- what binds is up to date: the arrays of binding B, by the rule S, for n pieces -/
def bdIs (F G : Nat → Nat → Nat) (b B n : Nat) (I A : zH) (S : Nat → Int32) : Prop := ∀ j, j < n → A (F B 0) j = S j ∧ A (F B 1) j = askv (licv F G b I 0) (S j) ∧ A (F B 2) j = askv (licv F G b I 4) (S j) ∧ A (F B 3) j = farv (licv F G b I 2) (licv F G b I 4) (S j)
def nowS (F G : Nat → Nat → Nat) (b : Nat) (I A : zH) (lim : Int32) : Nat → Int32 := bsv (ownv F G b I) (frv F G b I) (shv F G b A) lim
def ogOk (F G : Nat → Nat → Nat) (b n : Nat) (I A : zH) : Prop := ∀ i, i < n → hbIn (A (F b 3) i) i ∧ ∀ e, e < i → ¬ shv F G b A i e < I b 12 → hb (A (F b 3) i) e = true
theorem s_settle {b n pn : Nat} {ix : Nat → Nat} (ad : AD F G b ix) (hn : n ≤ 16) (hp : pn ≤ 5) (hI : I b 8 = i32 n) (hI2 : I b 10 = i32 pn) (hc : ∀ p, p < pn → conOk (I (G (F b 5) p) 4) (A (F (G (F b 5) p) 2))) :
    ∃ I' A', f_X5_settle F G b I A = some (cnum (rcB F G b (F b 6) I A') pn, I', A') ∧
      (∀ a, a ≠ F b 3 → a ≠ F (F b 6) 0 → a ≠ F (F b 6) 1 → a ≠ F (F b 6) 2 → a ≠ F (F b 6) 3 → A' a = A a) ∧ ogOk F G b n I A' ∧ bdIs F G b (F b 6) n I A' (nowS F G b I A (I b 12)) ∧
      (∀ i, n ≤ i → A' (F (F b 6) 0) i = A (F (F b 6) 0) i ∧ A' (F (F b 6) 1) i = A (F (F b 6) 1) i ∧ A' (F (F b 6) 2) i = A (F (F b 6) 2) i ∧ A' (F (F b 6) 3) i = A (F (F b 6) 3) i) ∧
      (∀ a k, (∀ p, p < pn → a ≠ G (F b 5) p) ∨ (k ≠ 6 ∧ k ≠ 7) → I' a k = I a k) ∧ (∀ p, p < pn → I' (G (F b 5) p) 6 = if rcB F G b (F b 6) I A' p then 2 else I (G (F b 5) p) 6) ∧ (∀ p, p < pn → I' (G (F b 5) p) 7 = if rcB F G b (F b 6) I A' p then I (G (F b 5) p) 7 + 1 else I (G (F b 5) p) 7) := by
  unfold f_X5_settle
  have shog : ∀ i, i < 16 → G (F b 2) i ≠ F b 3 := fun i hi => ad_ne (ad.sh hi) ad.og (by omega)
  obtain ⟨A1, e1, o1, o2, -⟩ := s_takeOrigins (G := G) hn hI shog (A := A)
  obtain ⟨A4, e4, b0, bS⟩ := s_bind (F := F) (G := G) (I := I) (A := A1) (b := b) (B := F b 6) (lim := I b 12) (t := -1) (l := -1) hn hI ad.apB6 ad.shB6
  obtain ⟨c0, c1, c2, c3⟩ := bS _ rfl
  have sh1 : ∀ i, i < 16 → shv F G b A1 i = shv F G b A i := fun i hi => by
    funext j
    unfold shv
    rw [o1 _ (shog i hi)]
  have sh4 : ∀ i, i < 16 → shv F G b A4 i = shv F G b A i := fun i hi => by
    rw [← sh1 i hi]
    funext j
    unfold shv
    obtain ⟨z0, z1, z2, z3⟩ := ad.shB6 i hi
    rw [b0 _ z0 z1 z2 z3]
  have hS : ∀ j, j < n → bsv (ownT (-1) (-1) (ownv F G b I)) (frv F G b I) (shv F G b A1) (I b 12) j = nowS F G b I A (I b 12) j := bsv_cg (fun i hi => by
    unfold ownT
    rw [if_neg (i32_ne (by omega))]) (fun _ _ => rfl) (fun i j hi hj => by rw [sh1 i (by omega)])
  have hc4 : ∀ p, p < pn → conOk (I (G (F b 5) p) 4) (A4 (F (G (F b 5) p) 2)) := fun p hp2 => by
    have n0 : ∀ j, j < 4 → F (G (F b 5) p) 2 ≠ F (F b 6) j := fun j hj => ad_ne (ad.pa (by omega : p < 5) (by decide : 2 < 4)) (ad.bd hj) (by omega)
    rw [b0 _ (n0 0 (by decide)) (n0 1 (by decide)) (n0 2 (by decide)) (n0 3 (by decide)), o1 _ (ad_ne (ad.pa (by omega : p < 5) (by decide : 2 < 4)) ad.og (by omega))]
    exact hc p hp2
  obtain ⟨I', e9, i1, i2, i3⟩ := s_settle22 ad hp hI2 hc4
  have og4 : F b 3 ≠ F (F b 6) 0 ∧ F b 3 ≠ F (F b 6) 1 ∧ F b 3 ≠ F (F b 6) 2 ∧ F b 3 ≠ F (F b 6) 3 := ⟨ad_ne ad.og (ad.bd (j := 0) (by decide)) (by decide), ad_ne ad.og (ad.bd (j := 1) (by decide)) (by decide), ad_ne ad.og (ad.bd (j := 2) (by decide)) (by decide), ad_ne ad.og (ad.bd (j := 3) (by decide)) (by decide)⟩
  refine ⟨I', A4, (zb_s e1).trans ((zb_s e4).trans (zb3_s e9)), fun a n0 n1 n2 n3 n4 => (b0 a n1 n2 n3 n4).trans (o1 a n0), fun i hi => ?_, fun j hj => ?_, fun i hi => ?_, i1, i2, i3⟩
  · rw [b0 _ og4.1 og4.2.1 og4.2.2.1 og4.2.2.2, sh4 i (by omega)]
    exact o2 i hi
  · rw [c0, c1, c2, c3, if_pos hj, if_pos hj, if_pos hj, if_pos hj, hS j hj]
    exact ⟨rfl, rfl, rfl, rfl⟩
  · rw [c0, c1, c2, c3, if_neg (by omega), if_neg (by omega), if_neg (by omega), if_neg (by omega)]
    refine ⟨?_, ?_, ?_, ?_⟩
    · rw [o1 _ (fun q => og4.1 q.symm)]
    · rw [o1 _ (fun q => og4.2.1 q.symm)]
    · rw [o1 _ (fun q => og4.2.2.1 q.symm)]
    · rw [o1 _ (fun q => og4.2.2.2 q.symm)]
end ZST
