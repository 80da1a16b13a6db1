/-! what holds of the bank between the law's calls -/
section ZIV
variable {F G : Nat → Nat → Nat} {I A I' A' : zH} {b n : Nat} {ix : Nat → Nat}
def pN (b n : Nat) (I : zH) : Prop := n ≤ 16 ∧ I b 8 = i32 n ∧ I b 9 = i32 4 ∧ I b 10 = i32 2 ∧ I b 12 = i32 60
def pD (F : Nat → Nat → Nat) (b : Nat) (I A : zH) : Prop := ∃ m, m ≤ 12 ∧ I (F b 0) 2 = i32 m ∧ (∀ j, j < m → 0 ≤ A (F (F b 0) 0) j) ∧ ∃ c, c ≤ 9 ∧ I (F b 0) 3 = i32 c
def pR (F G : Nat → Nat → Nat) (b n : Nat) (I A : zH) : Prop := ∀ i, i < n → ∃ m, 4 ≤ m ∧ m ≤ 12 ∧ rowIs F (F (G (F b 1) i) 0) m I A ∧ ∀ j, j < m → 0 ≤ A (F (F (G (F b 1) i) 0) 0) j
def pS (F G : Nat → Nat → Nat) (b n : Nat) (A : zH) : Prop := (∀ i j, i < n → j < n → ∃ q, q ≤ 100 ∧ shv F G b A i j = i32 q ∧ shv F G b A j i = i32 q) ∧ ∀ i, i < n → shv F G b A i i = i32 100
def pO (F G : Nat → Nat → Nat) (b : Nat) (I : zH) : Prop := ∀ i, i < 16 → ownv F G b I i = -1 ∨ ∃ l, l < 4 ∧ ownv F G b I i = i32 l
def pV (F G : Nat → Nat → Nat) (b : Nat) (I : zH) : Prop := ∀ l, l < 6 → hbIn (licv F G b I 4 l) 4 ∧ ∀ k, k < 6 → hb (licv F G b I 4 l) k = hb (licv F G b I 4 k) l
def pP (F G : Nat → Nat → Nat) (b n : Nat) (I A : zH) : Prop := ∀ p, p < 2 → hbIn (I (G (F b 5) p) 4) 10 ∧ ∀ k, k < 10 → hb (I (G (F b 5) p) 4) k = true → pcIn n (A (F (G (F b 5) p) 2) k)
def Pre (F G : Nat → Nat → Nat) (b n : Nat) (I A : zH) : Prop := pN b n I ∧ pD F b I A ∧ pR F G b n I A ∧ pS F G b n A ∧ pO F G b I ∧ pV F G b I ∧ pP F G b n I A
def Now (F G : Nat → Nat → Nat) (b n : Nat) (I A : zH) : Prop := ogOk F G b n I A ∧ bdIs F G b (F b 6) n I A (nowS F G b I A (i32 60)) ∧ ∀ p, p < 2 → rcB F G b (F b 6) I A p = false
theorem pN.cg (h : pN b n I) (e : ∀ k, 8 ≤ k → k ≠ 11 → I' b k = I b k) : pN b n I' := by
  obtain ⟨h1, h2, h3, h4, h5⟩ := h
  exact ⟨h1, by rw [e 8 (by decide) (by decide)]; exact h2, by rw [e 9 (by decide) (by decide)]; exact h3, by rw [e 10 (by decide) (by decide)]; exact h4, by rw [e 12 (by decide) (by decide)]; exact h5⟩
theorem pD.cg (h : pD F b I A) (e : ∀ k, k = 2 ∨ k = 3 → I' (F b 0) k = I (F b 0) k) (e2 : A' (F (F b 0) 0) = A (F (F b 0) 0)) : pD F b I' A' := by
  obtain ⟨m, h1, h2, h3, c, h4, h5⟩ := h
  exact ⟨m, h1, (e 2 (Or.inl rfl)).trans h2, by rw [e2]; exact h3, c, h4, (e 3 (Or.inr rfl)).trans h5⟩
theorem rowIs.cg {r m : Nat} (h : rowIs F r m I A) (e2 : I' r 2 = I r 2) (e3 : I' r 3 = I r 3) (a0 : A' (F r 0) = A (F r 0)) (a1 : A' (F r 1) = A (F r 1)) : rowIs F r m I' A' := by
  obtain ⟨h1, c, h2, h3⟩ := h
  exact ⟨e2.trans h1, c, e3.trans h2, by rw [a0, a1]; exact h3⟩
theorem pR.cg (h : pR F G b n I A) (e : ∀ i, i < n → I' (F (G (F b 1) i) 0) = I (F (G (F b 1) i) 0)) (a0 : ∀ i, i < n → A' (F (F (G (F b 1) i) 0) 0) = A (F (F (G (F b 1) i) 0) 0)) (a1 : ∀ i, i < n → A' (F (F (G (F b 1) i) 0) 1) = A (F (F (G (F b 1) i) 0) 1)) : pR F G b n I' A' := fun i hi => by
  obtain ⟨m, h1, h2, h3, h4⟩ := h i hi
  exact ⟨m, h1, h2, h3.cg (by rw [e i hi]) (by rw [e i hi]) (a0 i hi) (a1 i hi), by rw [a0 i hi]; exact h4⟩
theorem shv_cg (e : ∀ i, i < 16 → A' (G (F b 2) i) = A (G (F b 2) i)) (i : Nat) (hi : i < 16) (j : Nat) : shv F G b A' i j = shv F G b A i j := by
  unfold shv
  rw [e i hi]
theorem pS.cg (h : pS F G b n A) (hn : n ≤ 16) (e : ∀ i, i < 16 → A' (G (F b 2) i) = A (G (F b 2) i)) : pS F G b n A' := ⟨fun i j hi hj => by
  rw [shv_cg e i (by omega), shv_cg e j (by omega)]
  exact h.1 i j hi hj, fun i hi => by
  rw [shv_cg e i (by omega)]
  exact h.2 i hi⟩
theorem pO.cg (h : pO F G b I) (e : ∀ i, i < 16 → I' (G (F b 1) i) 1 = I (G (F b 1) i) 1) : pO F G b I' := fun i hi => by
  have e1 : ownv F G b I' i = ownv F G b I i := e i hi
  rw [e1]
  exact h i hi
theorem pV.cg (h : pV F G b I) (e : ∀ l, l < 6 → I' (G (F b 4) l) 4 = I (G (F b 4) l) 4) : pV F G b I' := fun l hl => by
  have e1 : ∀ l, l < 6 → licv F G b I' 4 l = licv F G b I 4 l := e
  refine ⟨by rw [e1 l hl]; exact (h l hl).1, fun k hk => ?_⟩
  rw [e1 l hl, e1 k hk]
  exact (h l hl).2 k hk
theorem pP.cg (h : pP F G b n I A) (e : ∀ p, p < 2 → I' (G (F b 5) p) 4 = I (G (F b 5) p) 4) (a : ∀ p, p < 2 → A' (F (G (F b 5) p) 2) = A (F (G (F b 5) p) 2)) : pP F G b n I' A' := fun p hp => by
  rw [e p hp, a p hp]
  exact h p hp
theorem pP.con (h : pP F G b n I A) (hn : n ≤ 16) {p : Nat} (hp : p < 2) : conOk (I (G (F b 5) p) 4) (A (F (G (F b 5) p) 2)) := fun k hk hb' => ((h p hp).2 k hk hb').ok hn
theorem ogOk.cg (h : ogOk F G b n I A) (hn : n ≤ 16) (e : I' b 12 = I b 12) (a : A' (F b 3) = A (F b 3)) (s : ∀ i, i < 16 → A' (G (F b 2) i) = A (G (F b 2) i)) : ogOk F G b n I' A' := fun i hi => by
  rw [a, e]
  refine ⟨(h i hi).1, fun j hj hs => (h i hi).2 j hj ?_⟩
  rw [← shv_cg s i (by omega)]
  exact hs
theorem nowS_cg (hn : n ≤ 16) {lim : Int32} (e1 : ∀ i, i < n → I' (G (F b 1) i) 1 = I (G (F b 1) i) 1) (e2 : ∀ i, i < n → I' (G (F b 1) i) 2 = I (G (F b 1) i) 2) (s : ∀ i, i < 16 → A' (G (F b 2) i) = A (G (F b 2) i)) : ∀ j, j < n → nowS F G b I' A' lim j = nowS F G b I A lim j := bsv_cg e1 e2 (fun i j hi hj => shv_cg s i (by omega) j)
theorem fo6 {f g : Nat → Int32 → Int32} (h : ∀ k a, k < 6 → f k a = g k a) (a : Int32) : zfo f 6 a = zfo g 6 a := zfo_cg h a
theorem askv_cg {f g : Nat → Int32} (h : ∀ k, k < 6 → f k = g k) (s : Int32) : askv f s = askv g s := fo6 (fun k a hk => by rw [h k hk]) 0
theorem stv_cg {f g : Nat → Int32} (h : ∀ k, k < 6 → f k = g k) : stv f = stv g := fo6 (fun k a hk => by rw [h k hk]) 0
theorem farv_cg {f g f' g' : Nat → Int32} (h : ∀ k, k < 6 → f k = g k) (h' : ∀ k, k < 6 → f' k = g' k) (s : Int32) : farv f f' s = farv g g' s := fo6 (fun k a hk => by rw [h k hk, h' k hk, stv_cg h]) 0
theorem bdIs.cg {B : Nat} {S S' : Nat → Int32} (h : bdIs F G b B n I A S) (hS : ∀ j, j < n → S' j = S j) (e : ∀ l, l < 6 → ∀ k, k ≠ 3 → I' (G (F b 4) l) k = I (G (F b 4) l) k) (a : ∀ j, j < 4 → A' (F B j) = A (F B j)) : bdIs F G b B n I' A' S' := fun j hj => by
  obtain ⟨h0, h1, h2, h3⟩ := h j hj
  rw [a 0 (by decide), a 1 (by decide), a 2 (by decide), a 3 (by decide), hS j hj, askv_cg (f := licv F G b I' 0) (g := licv F G b I 0) (fun k hk => e k hk 0 (by decide)), askv_cg (f := licv F G b I' 4) (g := licv F G b I 4) (fun k hk => e k hk 4 (by decide)), farv_cg (f := licv F G b I' 2) (g := licv F G b I 2) (f' := licv F G b I' 4) (g' := licv F G b I 4) (fun k hk => e k hk 2 (by decide)) (fun k hk => e k hk 4 (by decide))]
  exact ⟨h0, h1, h2, h3⟩
theorem rcB_cg {B p : Nat} (e4 : I' (G (F b 5) p) 4 = I (G (F b 5) p) 4) (e5 : I' (G (F b 5) p) 5 = I (G (F b 5) p) 5) (e6 : I' (G (F b 5) p) 6 = I (G (F b 5) p) 6) (a1 : A' (F (G (F b 5) p) 1) = A (F (G (F b 5) p) 1)) (a2 : A' (F (G (F b 5) p) 2) = A (F (G (F b 5) p) 2)) (a : ∀ j, j < 4 → A' (F B j) = A (F B j)) : rcB F G b B I' A' p = rcB F G b B I A p := by
  unfold rcB
  rw [e4, e5, e6, a1, a2, a 0 (by decide), a 1 (by decide), a 2 (by decide), a 3 (by decide)]
/-- what a change of the draft, or of scratch, leaves as it is -/
theorem Pre.q (h : Pre F G b n I A) (ad : AD F G b ix) (hI : ∀ a k, a ≠ F b 0 ∨ (k ≠ 2 ∧ k ≠ 3) → I' a k = I a k) (hA : ∀ a, (∀ j, j < 4 → a ≠ F (F b 7) j) → (∀ p, p < 5 → a ≠ F (G (F b 5) p) 3) → a ≠ F (F b 0) 0 → a ≠ F (F b 0) 1 → A' a = A a) (hD : pD F b I' A') : Pre F G b n I' A' ∧ (Now F G b n I A → Now F G b n I' A') := by
  obtain ⟨h1, h2, h3, h4, h5, h6, h7⟩ := h
  have hn := h1.1
  have aS : ∀ i, i < 16 → A' (G (F b 2) i) = A (G (F b 2) i) := fun i hi => hA _ (fun j hj => ad_ne (ad.sh hi) (ad.sp hj) (by omega)) (fun p hp => ad_ne (ad.sh hi) (ad.pa hp (by decide : 3 < 4)) (by omega)) (ad_ne (ad.sh hi) ad.dt (by omega)) (ad_ne (ad.sh hi) ad.dp (by omega))
  have aP : ∀ p, p < 5 → ∀ j, j < 3 → A' (F (G (F b 5) p) j) = A (F (G (F b 5) p) j) := fun p hp j hj => hA _ (fun i hi => ad_ne (ad.pa hp (by omega : j < 4)) (ad.sp hi) (by omega)) (fun q hq => ad_ne (ad.pa hp (by omega : j < 4)) (ad.pa hq (by decide : 3 < 4)) (by omega)) (ad_ne (ad.pa hp (by omega : j < 4)) ad.dt (by omega)) (ad_ne (ad.pa hp (by omega : j < 4)) ad.dp (by omega))
  have aB : ∀ j, j < 4 → A' (F (F b 6) j) = A (F (F b 6) j) := fun j hj => hA _ (fun i hi => ad_ne (ad.bd hj) (ad.sp hi) (by omega)) (fun q hq => ad_ne (ad.bd hj) (ad.pa hq (by decide : 3 < 4)) (by omega)) (ad_ne (ad.bd hj) ad.dt (by omega)) (ad_ne (ad.bd hj) ad.dp (by omega))
  have aO : A' (F b 3) = A (F b 3) := hA _ (fun i hi => ad_ne ad.og (ad.sp hi) (by omega)) (fun q hq => ad_ne ad.og (ad.pa hq (by decide : 3 < 4)) (by omega)) (ad_ne ad.og ad.dt (by decide)) (ad_ne ad.og ad.dp (by decide))
  have iP : ∀ p, p < 5 → ∀ k, I' (G (F b 5) p) k = I (G (F b 5) p) k := fun p hp k => hI _ _ (Or.inl (ad_ne (ad.pj hp) ad.d (by omega)))
  have iL : ∀ l, l < 6 → ∀ k, I' (G (F b 4) l) k = I (G (F b 4) l) k := fun p hp k => hI _ _ (Or.inl (ad_ne (ad.lc hp) ad.d (by omega)))
  have iC : ∀ i, i < 16 → ∀ k, I' (G (F b 1) i) k = I (G (F b 1) i) k := fun p hp k => hI _ _ (Or.inl (ad_ne (ad.pc hp) ad.d (by omega)))
  have iB : ∀ k, I' b k = I b k := fun k => hI _ _ (Or.inl (ad_ne ad.b0 ad.d (by decide)))
  refine ⟨⟨h1.cg (fun k _ _ => iB k), hD, h3.cg (fun i hi => funext fun k => hI _ _ (Or.inl (ad_ne (ad.pr (by omega : i < 16)) ad.d (by omega)))) (fun i hi => ?_) (fun i hi => ?_), h4.cg hn aS, h5.cg (fun i hi => iC i hi 1), h6.cg (fun l hl => iL l hl 4), h7.cg (fun p hp => iP p (by omega) 4) (fun p hp => aP p (by omega) 2 (by decide))⟩, fun hN => ?_⟩
  · have hi16 : i < 16 := by omega
    exact hA _ (fun j hj => ad_ne (ad.pt hi16) (ad.sp hj) (by omega)) (fun p hp => ad_ne (ad.pt hi16) (ad.pa hp (by decide : 3 < 4)) (by omega)) (ad_ne (ad.pt hi16) ad.dt (by omega)) (ad_ne (ad.pt hi16) ad.dp (by omega))
  · have hi16 : i < 16 := by omega
    exact hA _ (fun j hj => ad_ne (ad.pp hi16) (ad.sp hj) (by omega)) (fun p hp => ad_ne (ad.pp hi16) (ad.pa hp (by decide : 3 < 4)) (by omega)) (ad_ne (ad.pp hi16) ad.dt (by omega)) (ad_ne (ad.pp hi16) ad.dp (by omega))
  · obtain ⟨n1, n2, n3⟩ := hN
    exact ⟨n1.cg hn (iB 12) aO aS, n2.cg (nowS_cg hn (fun i hi => iC i (by omega) 1) (fun i hi => iC i (by omega) 2) aS) (fun l hl k _ => iL l hl k) aB, fun p hp => (rcB_cg (iP p (by omega) 4) (iP p (by omega) 5) (iP p (by omega) 6) (aP p (by omega) 1 (by decide)) (aP p (by omega) 2 (by decide)) aB).trans (n3 p hp)⟩
/-- after settle all is as it must be -/
theorem settle_inv (ad : AD F G b ix) (h : Pre F G b n I A) :
    ∃ I' A', f_X5_settle F G b I A = some (cnum (rcB F G b (F b 6) I A') 2, I', A') ∧ Pre F G b n I' A' ∧ Now F G b n I' A' ∧ (∀ a, a ≠ F b 3 → (∀ j, j < 4 → a ≠ F (F b 6) j) → A' a = A a) ∧ bdIs F G b (F b 6) n I A' (nowS F G b I A (i32 60)) ∧
      (∀ i, n ≤ i → ∀ j, j < 4 → A' (F (F b 6) j) i = A (F (F b 6) j) i) ∧
      (∀ a k, (∀ p, p < 2 → a ≠ G (F b 5) p) ∨ (k ≠ 6 ∧ k ≠ 7) → I' a k = I a k) ∧ (∀ p, p < 2 → I' (G (F b 5) p) 6 = if rcB F G b (F b 6) I A' p then 2 else I (G (F b 5) p) 6) ∧ (∀ p, p < 2 → I' (G (F b 5) p) 7 = if rcB F G b (F b 6) I A' p then I (G (F b 5) p) 7 + 1 else I (G (F b 5) p) 7) := by
  obtain ⟨h1, h2, h3, h4, h5, h6, h7⟩ := h
  have hn := h1.1
  obtain ⟨I', A', e, a1, o1, b1, b2, i1, i2, i3⟩ := s_settle ad hn (by decide : 2 ≤ 5) h1.2.1 h1.2.2.2.1 (fun p hp => h7.con hn hp)
  rw [h1.2.2.2.2] at b1
  have hA : ∀ a, a ≠ F b 3 → (∀ j, j < 4 → a ≠ F (F b 6) j) → A' a = A a := fun a q1 q2 => a1 a q1 (q2 0 (by decide)) (q2 1 (by decide)) (q2 2 (by decide)) (q2 3 (by decide))
  have aS : ∀ i, i < 16 → A' (G (F b 2) i) = A (G (F b 2) i) := fun i hi => hA _ (ad_ne (ad.sh hi) ad.og (by omega)) (fun j hj => ad_ne (ad.sh hi) (ad.bd hj) (by omega))
  have aP : ∀ p, p < 5 → ∀ j, j < 4 → A' (F (G (F b 5) p) j) = A (F (G (F b 5) p) j) := fun p hp j hj => hA _ (ad_ne (ad.pa hp hj) ad.og (by omega)) (fun i hi => ad_ne (ad.pa hp hj) (ad.bd hi) (by omega))
  have iP : ∀ p, p < 5 → ∀ k, k ≠ 6 → k ≠ 7 → I' (G (F b 5) p) k = I (G (F b 5) p) k := fun p hp k q1 q2 => i1 _ _ (Or.inr ⟨q1, q2⟩)
  have iL : ∀ l, l < 6 → ∀ k, I' (G (F b 4) l) k = I (G (F b 4) l) k := fun l hl k => i1 _ _ (Or.inl fun p hp => ad_ne (ad.lc hl) (ad.pj (by omega)) (by omega))
  have iC : ∀ i, i < 16 → ∀ k, I' (G (F b 1) i) k = I (G (F b 1) i) k := fun i hi k => i1 _ _ (Or.inl fun p hp => ad_ne (ad.pc hi) (ad.pj (by omega)) (by omega))
  have iR : ∀ i, i < 16 → I' (F (G (F b 1) i) 0) = I (F (G (F b 1) i) 0) := fun i hi => funext fun k => i1 _ _ (Or.inl fun p hp => ad_ne (ad.pr hi) (ad.pj (by omega)) (by omega))
  have iB : ∀ k, I' b k = I b k := fun k => i1 _ _ (Or.inl fun p hp => ad_ne ad.b0 (ad.pj (by omega)) (by omega))
  refine ⟨I', A', e, ⟨h1.cg (fun k _ _ => iB k), h2.cg (fun k hk => i1 _ _ (Or.inr (by omega))) (hA _ (ad_ne ad.dt ad.og (by decide)) (fun j hj => ad_ne ad.dt (ad.bd hj) (by omega))), h3.cg (fun i hi => iR i (by omega)) (fun i hi => ?_) (fun i hi => ?_), h4.cg hn aS, h5.cg (fun i hi => iC i hi 1), h6.cg (fun l hl => iL l hl 4), h7.cg (fun p hp => iP p (by omega) 4 (by decide) (by decide)) (fun p hp => aP p (by omega) 2 (by decide))⟩, ⟨o1.cg hn (iB 12) rfl (fun _ _ => rfl), b1.cg (nowS_cg hn (fun i hi => iC i (by omega) 1) (fun i hi => iC i (by omega) 2) aS) (fun l hl k _ => iL l hl k) (fun _ _ => rfl), fun p hp => ?_⟩, hA, b1, fun i hi j hj => ?_, i1, i2, i3⟩
  · have hi16 : i < 16 := by omega
    exact hA _ (ad_ne (ad.pt hi16) ad.og (by omega)) (fun j hj => ad_ne (ad.pt hi16) (ad.bd hj) (by omega))
  · have hi16 : i < 16 := by omega
    exact hA _ (ad_ne (ad.pp hi16) ad.og (by omega)) (fun j hj => ad_ne (ad.pp hi16) (ad.bd hj) (by omega))
  · cases hr : rcB F G b (F b 6) I A' p with
    | true =>
      have h6 := i2 p hp
      rw [hr] at h6
      unfold rcB
      have : ¬ I' (G (F b 5) p) 6 = 1 := by
        rw [h6, if_pos rfl]
        decide
      rw [decide_eq_false this]
      rfl
    | false =>
      have h6 := i2 p hp
      rw [hr] at h6
      exact (rcB_cg (iP p (by omega) 4 (by decide) (by decide)) (iP p (by omega) 5 (by decide) (by decide)) h6 rfl rfl (fun _ _ => rfl)).trans hr
  · obtain ⟨c0, c1, c2, c3⟩ := b2 i hi
    match j, hj with
    | 0, _ => exact c0
    | 1, _ => exact c1
    | 2, _ => exact c2
    | 3, _ => exact c3
end ZIV
