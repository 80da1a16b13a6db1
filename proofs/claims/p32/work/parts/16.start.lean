/-! the bank behind its constructor: 130 cells, by tables -/
def zkt (i : Nat) : Nat := ([5, 4, 6, 6, 8, 10, 6, 6, 6, 6, 6, 6, 6, 6, 6, 6, 6, 6, 6, 6, 6, 6, 6, 7, 9, 0, 6, 6, 6, 6, 0, 6, 6, 6, 6, 2, 4, 6, 6, 2, 4, 6, 6, 2, 4, 6, 6, 2, 4, 6, 6, 2, 4, 6, 6, 2, 4, 6, 6, 2, 4, 6, 6, 2, 4, 6, 6, 2, 4, 6, 6, 2, 4, 6, 6, 2, 4, 6, 6, 2, 4, 6, 6, 2, 4, 6, 6, 2, 4, 6, 6, 2, 4, 6, 6, 2, 4, 6, 6, 1, 1, 1, 1, 1, 1, 3, 6, 6, 6, 6, 3, 6, 6, 6, 6, 3, 6, 6, 6, 6, 3, 6, 6, 6, 6, 3, 6, 6, 6, 6] : List Nat).getD i 11
def znt (i : Nat) : Nat := ([0, 0, 12, 9, 16, 16, 16, 16, 16, 16, 16, 16, 16, 16, 16, 16, 16, 16, 16, 16, 16, 16, 16, 6, 5, 0, 16, 16, 16, 16, 0, 16, 16, 16, 16, 0, 0, 12, 9, 0, 0, 12, 9, 0, 0, 12, 9, 0, 0, 12, 9, 0, 0, 12, 9, 0, 0, 12, 9, 0, 0, 12, 9, 0, 0, 12, 9, 0, 0, 12, 9, 0, 0, 12, 9, 0, 0, 12, 9, 0, 0, 12, 9, 0, 0, 12, 9, 0, 0, 12, 9, 0, 0, 12, 9, 0, 0, 12, 9, 0, 0, 0, 0, 0, 0, 0, 10, 10, 10, 10, 0, 10, 10, 10, 10, 0, 10, 10, 10, 10, 0, 10, 10, 10, 10, 0, 10, 10, 10, 10] : List Nat).getD i 0
def zft (i k : Nat) : Nat := (([[1, 4, 5, 22, 23, 24, 25, 30, 0, 0, 0, 0, 0], [2, 3, 0, 0], [], [], [], [], [], [], [], [], [], [], [], [], [], [], [], [], [], [], [], [], [], [], [], [26, 27, 28, 29], [], [], [], [], [31, 32, 33, 34], [], [], [], [], [36, 0, 0], [37, 38, 0, 0], [], [], [40, 0, 0], [41, 42, 0, 0], [], [], [44, 0, 0], [45, 46, 0, 0], [], [], [48, 0, 0], [49, 50, 0, 0], [], [], [52, 0, 0], [53, 54, 0, 0], [], [], [56, 0, 0], [57, 58, 0, 0], [], [], [60, 0, 0], [61, 62, 0, 0], [], [], [64, 0, 0], [65, 66, 0, 0], [], [], [68, 0, 0], [69, 70, 0, 0], [], [], [72, 0, 0], [73, 74, 0, 0], [], [], [76, 0, 0], [77, 78, 0, 0], [], [], [80, 0, 0], [81, 82, 0, 0], [], [], [84, 0, 0], [85, 86, 0, 0], [], [], [88, 0, 0], [89, 90, 0, 0], [], [], [92, 0, 0], [93, 94, 0, 0], [], [], [96, 0, 0], [97, 98, 0, 0], [], [], [0, 0, 0, 0, 0], [0, 0, 0, 0, 0], [0, 0, 0, 0, 0], [0, 0, 0, 0, 0], [0, 0, 0, 0, 0], [0, 0, 0, 0, 0], [106, 107, 108, 109, 0, 0, 0, 0], [], [], [], [], [111, 112, 113, 114, 0, 0, 0, 0], [], [], [], [], [116, 117, 118, 119, 0, 0, 0, 0], [], [], [], [], [121, 122, 123, 124, 0, 0, 0, 0], [], [], [], [], [126, 127, 128, 129, 0, 0, 0, 0], [], [], [], []] : List (List Nat)).getD i []).getD k 0
def zgt (i k : Nat) : Nat := (([[], [], [], [], [35, 39, 43, 47, 51, 55, 59, 63, 67, 71, 75, 79, 83, 87, 91, 95], [6, 7, 8, 9, 10, 11, 12, 13, 14, 15, 16, 17, 18, 19, 20, 21], [], [], [], [], [], [], [], [], [], [], [], [], [], [], [], [], [], [99, 100, 101, 102, 103, 104], [105, 110, 115, 120, 125], [], [], [], [], [], [], [], [], [], [], [], [], [], [], [], [], [], [], [], [], [], [], [], [], [], [], [], [], [], [], [], [], [], [], [], [], [], [], [], [], [], [], [], [], [], [], [], [], [], [], [], [], [], [], [], [], [], [], [], [], [], [], [], [], [], [], [], [], [], [], [], [], [], [], [], [], [], [], [], [], [], [], [], [], [], [], [], [], [], [], [], [], [], [], [], [], [], [], [], [], [], [], [], [], []] : List (List Nat)).getD i []).getD k 0
def zit (i k : Nat) : Int32 := (([[0, 0, 0, 0, 0, 0, 0, 0, 0, 0, 0, 0, 60], [0, 0, 0, 0], [], [], [], [], [], [], [], [], [], [], [], [], [], [], [], [], [], [], [], [], [], [], [], [0, 0, 0, 0], [], [], [], [], [0, 0, 0, 0], [], [], [], [], [0, (-1), 0], [0, 0, 0, 0], [], [], [0, (-1), 0], [0, 0, 0, 0], [], [], [0, (-1), 0], [0, 0, 0, 0], [], [], [0, (-1), 0], [0, 0, 0, 0], [], [], [0, (-1), 0], [0, 0, 0, 0], [], [], [0, (-1), 0], [0, 0, 0, 0], [], [], [0, (-1), 0], [0, 0, 0, 0], [], [], [0, (-1), 0], [0, 0, 0, 0], [], [], [0, (-1), 0], [0, 0, 0, 0], [], [], [0, (-1), 0], [0, 0, 0, 0], [], [], [0, (-1), 0], [0, 0, 0, 0], [], [], [0, (-1), 0], [0, 0, 0, 0], [], [], [0, (-1), 0], [0, 0, 0, 0], [], [], [0, (-1), 0], [0, 0, 0, 0], [], [], [0, (-1), 0], [0, 0, 0, 0], [], [], [0, (-1), 0], [0, 0, 0, 0], [], [], [0, 0, 0, 0, 0], [0, 0, 0, 0, 0], [0, 0, 0, 0, 0], [0, 0, 0, 0, 0], [0, 0, 0, 0, 0], [0, 0, 0, 0, 0], [0, 0, 0, 0, 1, 0, 0, 0], [], [], [], [], [0, 0, 0, 0, 1, 0, 0, 0], [], [], [], [], [0, 0, 0, 0, 1, 0, 0, 0], [], [], [], [], [0, 0, 0, 0, 1, 0, 0, 0], [], [], [], [], [0, 0, 0, 0, 1, 0, 0, 0], [], [], [], []] : List (List Int32)).getD i []).getD k 0
def zat (i : Nat) : Nat → Int32 := (([fun _ => 0, fun _ => 0, fun _ => 0, fun _ => 0, fun _ => 0, fun _ => 0, fun _ => 0, fun _ => 0, fun _ => 0, fun _ => 0, fun _ => 0, fun _ => 0, fun _ => 0, fun _ => 0, fun _ => 0, fun _ => 0, fun _ => 0, fun _ => 0, fun _ => 0, fun _ => 0, fun _ => 0, fun _ => 0, fun _ => 0, fun _ => 0, fun _ => 0, fun _ => 0, fun _ => 0, fun _ => 0, fun _ => 0, fun _ => 0, fun _ => 0, fun _ => 0, fun _ => 0, fun _ => 0, fun _ => 0, fun _ => 0, fun _ => 0, fun _ => 0, fun _ => 0, fun _ => 0, fun _ => 0, fun _ => 0, fun _ => 0, fun _ => 0, fun _ => 0, fun _ => 0, fun _ => 0, fun _ => 0, fun _ => 0, fun _ => 0, fun _ => 0, fun _ => 0, fun _ => 0, fun _ => 0, fun _ => 0, fun _ => 0, fun _ => 0, fun _ => 0, fun _ => 0, fun _ => 0, fun _ => 0, fun _ => 0, fun _ => 0, fun _ => 0, fun _ => 0, fun _ => 0, fun _ => 0, fun _ => 0, fun _ => 0, fun _ => 0, fun _ => 0, fun _ => 0, fun _ => 0, fun _ => 0, fun _ => 0, fun _ => 0, fun _ => 0, fun _ => 0, fun _ => 0, fun _ => 0, fun _ => 0, fun _ => 0, fun _ => 0, fun _ => 0, fun _ => 0, fun _ => 0, fun _ => 0, fun _ => 0, fun _ => 0, fun _ => 0, fun _ => 0, fun _ => 0, fun _ => 0, fun _ => 0, fun _ => 0, fun _ => 0, fun _ => 0, fun _ => 0, fun _ => 0, fun _ => 0, fun _ => 0, fun _ => 0, fun _ => 0, fun _ => 0, fun _ => 0, fun _ => 0, upd (fun _ => 0) 0 (-1), fun _ => 0, upd (fun _ => 0) 0 (-1), fun _ => 0, fun _ => 0, upd (fun _ => 0) 0 (-1), fun _ => 0, upd (fun _ => 0) 0 (-1), fun _ => 0, fun _ => 0, upd (fun _ => 0) 0 (-1), fun _ => 0, upd (fun _ => 0) 0 (-1), fun _ => 0, fun _ => 0, upd (fun _ => 0) 0 (-1), fun _ => 0, upd (fun _ => 0) 0 (-1), fun _ => 0, fun _ => 0, upd (fun _ => 0) 0 (-1), fun _ => 0, upd (fun _ => 0) 0 (-1), fun _ => 0] : List (Nat → Int32))).getD i (fun _ => 0)
def zad (L : List Nat) (i : Nat) : Nat := L.getD i 0
def zix : List Nat → Nat → Nat
  | [], _ => 0
  | x :: l, a => if a = x then 0 else zix l a + 1
theorem zix_le (L : List Nat) (a : Nat) : zix L a ≤ L.length := by
  induction L with
  | nil => exact Nat.le_refl _
  | cons x l ih =>
    unfold zix
    split
    · exact Nat.zero_le _
    · exact Nat.succ_le_succ ih
theorem zix_out {L : List Nat} {a : Nat} (h : a ∉ L) : zix L a = L.length := by
  induction L with
  | nil => rfl
  | cons x l ih =>
    unfold zix
    have hne : ¬ a = x := fun e => h (List.mem_cons.mpr (Or.inl e))
    rw [if_neg hne, ih (fun q => h (List.mem_cons_of_mem _ q))]
    rfl
theorem zix_get {L : List Nat} (hN : zNd L) {i a : Nat} (h : L[i]? = some a) : zix L a = i := by
  induction L generalizing i with
  | nil => simp at h
  | cons x l ih =>
    unfold zix
    cases i with
    | zero =>
      have e : a = x := by simpa using h.symm
      rw [if_pos e]
    | succ i =>
      have hl : l[i]? = some a := by simpa using h
      have hne : ¬ a = x := fun e => by
        have := hN 0 (i + 1) a (by rw [e]; rfl) h
        omega
      rw [if_neg hne, ih (fun u v y hu hv => by
        have := hN (u + 1) (v + 1) y (by simpa using hu) (by simpa using hv)
        omega) hl]
def zKK (L : List Nat) (a : Nat) : Nat := zkt (zix L a)
def zNN (L : List Nat) (a : Nat) : Nat := znt (zix L a)
def zFF (L : List Nat) (a k : Nat) : Nat := zad L (zft (zix L a) k)
def zGG (L : List Nat) (a k : Nat) : Nat := zad L (zgt (zix L a) k)
def zI0 (L : List Nat) (a k : Nat) : Int32 := zit (zix L a) k
def zA0 (L : List Nat) (a k : Nat) : Int32 := zat (zix L a) k
def zT (cy : Nat → ClassId) (L : List Nat) (i : Nat) : va_E :=
  if zkt i < 6 then .inr (zkt i, zF (zkt i) (fun _ k => zad L (zft i k)) (fun _ k => zit i k) 0) else if zkt i = 6 then .inl (cy 6, znt i, .inl (zat i)) else .inl (cy (zkt i), znt i, .inr (.inr (.inr (.inr (fun j => some (zad L (zgt i j)))))))
theorem zT_eq (cy : Nat → ClassId) (L : List Nat) (a : Nat) : zM cy (zKK L) (zNN L) (zFF L) (zGG L) (zI0 L) (zA0 L) a = zT cy L (zix L a) := rfl
theorem zad_get {L : List Nat} {i : Nat} (h : i < L.length) : L[i]? = some (zad L i) := by
  unfold zad
  rw [List.getD_eq_getElem?_getD, List.getElem?_eq_getElem h]
  rfl
theorem zix_ad {L : List Nat} (hN : zNd L) {i : Nat} (h : i < L.length) : zix L (zad L i) = i := zix_get hN (zad_get h)
theorem zt_A : ∀ i, i < 131 → zkt i < 11 → i < 130 := by decide +kernel
theorem zt_0 : ∀ i, i < 131 → zkt i = 0 → ∀ k, k < 4 → zft i k < 130 ∧ zkt (zft i k) = 6 ∧ znt (zft i k) = 16 := by decide +kernel
theorem zt_2 : ∀ i, i < 131 → zkt i = 2 → zft i 0 < 130 ∧ zkt (zft i 0) = 4 := by decide +kernel
theorem zt_3 : ∀ i, i < 131 → zkt i = 3 → ∀ k, k < 4 → zft i k < 130 ∧ zkt (zft i k) = 6 ∧ znt (zft i k) = 10 := by decide +kernel
theorem zt_4 : ∀ i, i < 131 → zkt i = 4 → (zft i 0 < 130 ∧ zkt (zft i 0) = 6 ∧ znt (zft i 0) = 12) ∧ zft i 1 < 130 ∧ zkt (zft i 1) = 6 ∧ znt (zft i 1) = 9 := by decide +kernel
theorem zt_5 : ∀ i, i < 131 → zkt i = 5 → (∀ k, k < 8 → zft i k < 130) ∧ zkt (zft i 0) = 4 ∧ (zkt (zft i 1) = 8 ∧ znt (zft i 1) = 16) ∧ (zkt (zft i 2) = 10 ∧ znt (zft i 2) = 16) ∧ (zkt (zft i 3) = 6 ∧ znt (zft i 3) = 16) ∧ (zkt (zft i 4) = 7 ∧ znt (zft i 4) = 6) ∧ (zkt (zft i 5) = 9 ∧ znt (zft i 5) = 5) ∧ zkt (zft i 6) = 0 ∧ zkt (zft i 7) = 0 := by decide +kernel
theorem zt_7 : ∀ i, i < 131 → zkt i = 7 → ∀ j, j < znt i → zgt i j < 130 ∧ zkt (zgt i j) = 1 := by decide +kernel
theorem zt_8 : ∀ i, i < 131 → zkt i = 8 → ∀ j, j < znt i → zgt i j < 130 ∧ zkt (zgt i j) = 2 := by decide +kernel
theorem zt_9 : ∀ i, i < 131 → zkt i = 9 → ∀ j, j < znt i → zgt i j < 130 ∧ zkt (zgt i j) = 3 := by decide +kernel
theorem zt_10 : ∀ i, i < 131 → zkt i = 10 → ∀ j, j < znt i → zgt i j < 130 ∧ zkt (zgt i j) = 6 ∧ znt (zgt i j) = 16 := by decide +kernel
theorem zZL {L : List Nat} (hlen : L.length = 130) (hN : zNd L) : ZL L (zKK L) (zNN L) (zFF L) (zGG L) := by
  have hb : ∀ a, zix L a < 131 := fun a => by
    have := zix_le L a
    omega
  have hx : ∀ i, i < 130 → zix L (zad L i) = i := fun i h => zix_ad hN (by omega)
  have e1 : ∀ i, i < 130 → zKK L (zad L i) = zkt i := fun i h => by unfold zKK; rw [hx i h]
  have e2 : ∀ i, i < 130 → zNN L (zad L i) = znt i := fun i h => by unfold zNN; rw [hx i h]
  refine ⟨fun a h => ?_, hN, fun a h k hk => ?_, fun a h => ?_, fun a h k hk => ?_, fun a h => ?_, fun a h => ?_, fun a h i hi => ?_, fun a h i hi => ?_, fun a h i hi => ?_, fun a h i hi => ?_⟩
  · exact Decidable.byContradiction fun q => by
      have h1 := zt_A _ (hb a) h
      have h2 := zix_out q
      omega
  · obtain ⟨h1, h2, h3⟩ := zt_0 _ (hb a) h k hk
    exact ⟨(e1 _ h1).trans h2, (e2 _ h1).trans h3⟩
  · obtain ⟨h1, h2⟩ := zt_2 _ (hb a) h
    exact (e1 _ h1).trans h2
  · obtain ⟨h1, h2, h3⟩ := zt_3 _ (hb a) h k hk
    exact ⟨(e1 _ h1).trans h2, (e2 _ h1).trans h3⟩
  · obtain ⟨⟨h1, h2, h3⟩, h4, h5, h6⟩ := zt_4 _ (hb a) h
    exact ⟨⟨(e1 _ h1).trans h2, (e2 _ h1).trans h3⟩, (e1 _ h4).trans h5, (e2 _ h4).trans h6⟩
  · obtain ⟨g, h0, ⟨h1, n1⟩, ⟨h2, n2⟩, ⟨h3, n3⟩, ⟨h4, n4⟩, ⟨h5, n5⟩, h6, h7⟩ := zt_5 _ (hb a) h
    exact ⟨(e1 _ (g 0 (by decide))).trans h0, ⟨(e1 _ (g 1 (by decide))).trans h1, (e2 _ (g 1 (by decide))).trans n1⟩, ⟨(e1 _ (g 2 (by decide))).trans h2, (e2 _ (g 2 (by decide))).trans n2⟩, ⟨(e1 _ (g 3 (by decide))).trans h3, (e2 _ (g 3 (by decide))).trans n3⟩, ⟨(e1 _ (g 4 (by decide))).trans h4, (e2 _ (g 4 (by decide))).trans n4⟩, ⟨(e1 _ (g 5 (by decide))).trans h5, (e2 _ (g 5 (by decide))).trans n5⟩, (e1 _ (g 6 (by decide))).trans h6, (e1 _ (g 7 (by decide))).trans h7⟩
  · obtain ⟨h1, h2⟩ := zt_7 _ (hb a) h i hi
    exact (e1 _ h1).trans h2
  · obtain ⟨h1, h2⟩ := zt_8 _ (hb a) h i hi
    exact (e1 _ h1).trans h2
  · obtain ⟨h1, h2⟩ := zt_9 _ (hb a) h i hi
    exact (e1 _ h1).trans h2
  · obtain ⟨h1, h2, h3⟩ := zt_10 _ (hb a) h i hi
    exact ⟨(e1 _ h1).trans h2, (e2 _ h1).trans h3⟩
theorem z_arrV {c : ClassId} {n : Nat} {f g : Nat → Value} (h : ∀ j, j < n → f j = g j) : arrV c n f = arrV c n g := by
  unfold arrV
  congr 1
  apply congrArg
  funext j
  exact h j.1 j.2
section ZKS
variable {p : Program} {l : Launch} {e : Env} {R : Room} {s : State} {m : MethodId} {args : Array Value} {below : List Frame} {meth : Method} {c : Code} {cells slots : Nat} {Q : State → Prop}
variable {cc : ByteArray} {own : String} {nL : Nat} {D : va_G} {cy : Nat → ClassId} {A : Nat → Prop}
variable {ws w1 : va_W} {pc : Nat} {lv : List (Nat × Value)} {st : List Value}
theorem zx_q {k kk n q : Nat} {f g : Nat → Option Nat} (he : ws[k]? = some (zcq cy kk n q f)) (hfg : ∀ j, j < n → f j = g j) (hw : ws.set k (zcq cy kk n q g) = w1) (hk : ZX p l e R s m args below meth c nL D A cells slots Q w1 pc lv st) : ZX p l e R s m args below meth c nL D A cells slots Q ws pc lv st := by
  intro H locs ls hP hD hS hl
  subst hw
  have hlt := (List.getElem?_eq_some_iff.mp he).1
  have hget : ∀ (i : Nat) (x : Nat × va_E), (ws.set k (zcq cy kk n q g))[i]? = some x → (i = k ∧ x = zcq cy kk n q g) ∨ ws[i]? = some x := fun i x hx => by
    by_cases e : k = i
    · subst e
      rw [List.getElem?_set_self hlt] at hx
      exact Or.inl ⟨rfl, (Option.some.inj hx).symm⟩
    · rw [List.getElem?_set_ne e] at hx
      exact Or.inr hx
  refine hk H locs ls (fun i x hx => ?_) ⟨fun i j x y hi hj hxy => ?_, fun i x hx => ?_⟩ hS hl
  · rcases hget i x hx with ⟨rfl, rfl⟩ | h
    · have h1 : H[q]? = some (vp_cell (cy kk) (n, .inr (.inr (.inr (.inr f))))) := hP i _ he
      show H[q]? = some (vp_cell (cy kk) (n, .inr (.inr (.inr (.inr g)))))
      rw [h1, vp_cell_q, vp_cell_q, z_arrV (fun j hj => congrArg va_rf (hfg j hj))]
    · exact hP i x h
  · have a1 : ∃ x', ws[i]? = some x' ∧ x'.1 = x.1 := by
      rcases hget i x hi with ⟨rfl, rfl⟩ | h
      · exact ⟨_, he, rfl⟩
      · exact ⟨_, h, rfl⟩
    have a2 : ∃ x', ws[j]? = some x' ∧ x'.1 = y.1 := by
      rcases hget j y hj with ⟨rfl, rfl⟩ | h
      · exact ⟨_, he, rfl⟩
      · exact ⟨_, h, rfl⟩
    obtain ⟨x', b1, b2⟩ := a1
    obtain ⟨y', c1, c2⟩ := a2
    exact hD.1 i j x' y' b1 c1 (by rw [b2, c2]; exact hxy)
  · rcases hget i x hx with ⟨rfl, rfl⟩ | h
    · exact hD.2 i (zcq cy kk n q f) he
    · exact hD.2 i x h
theorem zx_to_zw {L : List Nat} (hlen : L.length = 130) (hws : ws = (List.range 130).map (fun i => (zad L i, zT cy L i))) (hA : ∀ q, A q → s.heap.size ≤ q) (kk : zNd L → (∀ a ∈ L, s.heap.size ≤ a) → ZW p l e R s m args below meth c nL D cy L (zKK L) (zNN L) (zFF L) (zGG L) cells slots Q (zI0 L) (zA0 L) pc lv st) : ZX p l e R s m args below meth c nL D A cells slots Q ws pc lv st := by
  intro H locs ls hP hD hS hl
  have hget : ∀ i, i < 130 → ws[i]? = some (zad L i, zT cy L i) := fun i h => by
    rw [hws, List.getElem?_map, List.getElem?_range h]
    rfl
  have hLi : ∀ i x, L[i]? = some x → i < 130 ∧ zad L i = x := fun i x h => by
    have h1 := (List.getElem?_eq_some_iff.mp h).1
    exact ⟨by omega, Option.some.inj ((zad_get h1).symm.trans h)⟩
  have hN : zNd L := fun i j x hi hj => by
    obtain ⟨i1, i2⟩ := hLi i x hi
    obtain ⟨j1, j2⟩ := hLi j x hj
    exact hD.1 i j _ _ (hget i i1) (hget j j1) (i2.trans j2.symm)
  have hge : ∀ a ∈ L, s.heap.size ≤ a := fun a ha => by
    obtain ⟨i, hi⟩ := List.getElem?_of_mem ha
    obtain ⟨i1, i2⟩ := hLi i a hi
    have := hA _ (hD.2 i _ (hget i i1))
    rw [← i2]
    exact this
  have e1 : ws = va_pl L (zM cy (zKK L) (zNN L) (zFF L) (zGG L) (zI0 L) (zA0 L)) := by
    apply List.ext_getElem?
    intro i
    by_cases h : i < 130
    · rw [hget i h]
      unfold va_pl
      rw [List.getElem?_map, zad_get (by omega : i < L.length)]
      show some _ = some (zad L i, zM cy (zKK L) (zNN L) (zFF L) (zGG L) (zI0 L) (zA0 L) (zad L i))
      rw [zT_eq, zix_ad hN (by omega)]
    · rw [List.getElem?_eq_none (by rw [hws]; simp; omega), List.getElem?_eq_none (by unfold va_pl; simp; omega)]
  exact kk hN hge H locs ls (e1 ▸ hP) ⟨hS.1, fun q h1 h2 => hS.2.1 q h1 (fun h => h2 (Or.inr (hA q h))), fun z hz => Or.inr (hA _ (hS.2.2 z hz))⟩ hl
end ZKS
/-! the classes and the arrays that the tables name -/
theorem z_arr1 {s : State} {args : Array Value} (h : (Cond.arrayClass .int).before args s = true) : ∃ cA : ClassId, ArrOfT s cA .int ∧ va_RA s cA .int := by
  obtain ⟨c, k, comp, h1, h2, h3⟩ := Cond.arrayClass_spec h
  exact ⟨c, fun n z => ⟨fun k h => (by cases h), k, h2, comp, h3⟩, h1⟩
theorem z_arrO {s : State} {C : String} (h : va_AO C s) : ∃ cA : ClassId, ArrOfT s cA (.object C) ∧ va_RA s cA (.object C) := by
  obtain ⟨comp, c, k, h1, -, h3, h4, h5⟩ := Cond.arrayOver_spec h
  exact ⟨c, fun n z => ⟨fun k h => (by cases h), k, h3, comp, h4⟩, k, comp, h3, h4, h1, h5⟩
theorem z_arrA {s : State} (h : zAOA .int s) : ∃ cA : ClassId, ArrOfT s cA (.array .int) ∧ va_RA s cA (.array .int) := by
  obtain ⟨comp, c, k, h1, -, h3, h4, h5⟩ := arrayOverA_spec h
  exact ⟨c, fun n z => ⟨fun k h => (by cases h), k, h3, comp, h4⟩, h5⟩
theorem wd_16 : (Cond.instantiable RX5 13) ∈ zW := zIn 16 (by decide +kernel) (by decide +kernel)
theorem wd_15 : (Cond.classLink RL 9 RX5) ∈ zW := zIn 15 (by decide +kernel) (by decide +kernel)
theorem wd_17 : (Cond.methodLink RL 11 yX5_init) ∈ zW := zIn 17 (by decide +kernel) (by decide +kernel)
theorem wd_18 : (Cond.instanceMethod yX5_init) ∈ zW := zIn 18 (by decide +kernel) (by decide +kernel)
theorem wd_19 : (Cond.code yX5_init cX5_init 2 none) ∈ zW := zIn 19 (by decide +kernel) (by decide +kernel)
theorem z_known {s : State} {args : Array Value} (hW : ∀ w ∈ zW, w.before args s = true) (hB : zCb s) : ∃ (D : va_G) (cy : Nat → ClassId), va_K D vwCl (zTys cy) s := by
  obtain ⟨c0, i0, k0⟩ := u_known (T := TX0) hW zinX0 (hW _ wd_54)
  obtain ⟨c1, i1, k1⟩ := u_known (T := TX1) hW zinX1 (hW _ wd_92)
  obtain ⟨c2, i2, k2⟩ := u_known (T := TX2) hW zinX2 (hW _ wd_72)
  obtain ⟨c3, i3, k3⟩ := u_known (T := TX3) hW zinX3 (hW _ wd_121)
  obtain ⟨c4, i4, k4⟩ := u_known (T := TX4) hW zinX4 (hW _ wd_24)
  obtain ⟨c5, i5, k5⟩ := u_known (T := TX5) hW zinX5 (hW _ wd_16)
  obtain ⟨a6, r6, s6⟩ := z_arr1 (hW _ wd_44)
  obtain ⟨a7, r7, s7⟩ := z_arrO hB.2.2.2.2.2.1
  obtain ⟨a8, r8, s8⟩ := z_arrO hB.2.2.2.2.2.2.1
  obtain ⟨a9, r9, s9⟩ := z_arrO hB.2.2.2.2.2.2.2.1
  obtain ⟨a10, r10, s10⟩ := z_arrA hB.2.2.2.2.2.2.2.2
  refine ⟨(fun c => ([c0, c1, c2, c3, c4, c5] : List ClassId).getD c c0, fun c => ([i0, i1, i2, i3, i4, i5] : List (Nat → Nat)).getD c i0), fun k => ([a6, a7, a8, a9, a10] : List ClassId).getD (k - 6) a6, fun c q hc => ?_, fun k q hk => ?_⟩
  · match c, hc with
    | 0, hc => cases hc; exact k0
    | 1, hc => cases hc; exact k1
    | 2, hc => cases hc; exact k2
    | 3, hc => cases hc; exact k3
    | 4, hc => cases hc; exact k4
    | 5, hc => cases hc; exact k5
    | n + 6, hc => exact absurd (List.getElem?_eq_some_iff.mp hc).1 (by show ¬ n + 6 < 6; omega)
  · match k, hk with
    | 0, hk => cases hk; exact ⟨r6, s6⟩
    | 1, hk => cases hk; exact ⟨r7, s7⟩
    | 2, hk => cases hk; exact ⟨r8, s8⟩
    | 3, hk => cases hk; exact ⟨r9, s9⟩
    | 4, hk => cases hk; exact ⟨r10, s10⟩
    | n + 5, hk => exact absurd (List.getElem?_eq_some_iff.mp hk).1 (by show ¬ n + 5 < 5; omega)
theorem z_nbs {s : State} {args : Array Value} (hts : ∀ w ∈ lw_tbl, w.before args s = true) : zNb s := ⟨va_Nw.of rfl (hts _ (List.mem_append_right _ (List.mem_of_getElem? (i := 322) (by decide +kernel)))), va_Nw.of rfl (hts _ (List.mem_append_right _ (List.mem_of_getElem? (i := 337) (by decide +kernel))))⟩
theorem z_cb {s : State} {args : Array Value} (hts : ∀ w ∈ lw_tbl, w.before args s = true) : zCb s := ⟨va_Nw.of rfl (hts _ (List.mem_append_right _ (List.mem_of_getElem? (i := 25) (by decide +kernel)))), va_Nw.of rfl (hts _ (List.mem_append_right _ (List.mem_of_getElem? (i := 55) (by decide +kernel)))), va_Nw.of rfl (hts _ (List.mem_append_right _ (List.mem_of_getElem? (i := 73) (by decide +kernel)))), va_Nw.of rfl (hts _ (List.mem_append_right _ (List.mem_of_getElem? (i := 78) (by decide +kernel)))), va_Nw.of rfl (hts _ (List.mem_append_right _ (List.mem_of_getElem? (i := 93) (by decide +kernel)))), va_AO.of (hts _ (List.mem_append_right _ (List.mem_of_getElem? (i := 50) (by decide +kernel)))), va_AO.of (hts _ (List.mem_append_right _ (List.mem_of_getElem? (i := 46) (by decide +kernel)))), va_AO.of (hts _ (List.mem_append_right _ (List.mem_of_getElem? (i := 52) (by decide +kernel)))), (hts _ (List.mem_append_right _ (List.mem_of_getElem? (i := 48) (by decide +kernel))) : (Cond.arrayOver (.array .int)).before _ s = true)⟩
def zLs (q0 : Nat) (u : Nat → Nat) : List Nat := [q0, u 0, u 1, u 2, u 3, u 4, u 5, u 6, u 7, u 8, u 9, u 10, u 11, u 12, u 13, u 14, u 15, u 16, u 17, u 18, u 19, u 20, u 21, u 22, u 23, u 24, u 25, u 26, u 27, u 28, u 29, u 30, u 31, u 32, u 33, u 34, u 35, u 36, u 37, u 38, u 39, u 40, u 41, u 42, u 43, u 44, u 45, u 46, u 47, u 48, u 49, u 50, u 51, u 52, u 53, u 54, u 55, u 56, u 57, u 58, u 59, u 60, u 61, u 62, u 63, u 64, u 65, u 66, u 67, u 68, u 69, u 70, u 71, u 72, u 73, u 74, u 75, u 76, u 77, u 78, u 79, u 80, u 81, u 82, u 83, u 84, u 85, u 86, u 87, u 88, u 89, u 90, u 91, u 92, u 93, u 94, u 95, u 96, u 97, u 98, u 99, u 100, u 101, u 102, u 103, u 104, u 105, u 106, u 107, u 108, u 109, u 110, u 111, u 112, u 113, u 114, u 115, u 116, u 117, u 118, u 119, u 120, u 121, u 122, u 123, u 124, u 125, u 126, u 127, u 128]
set_option maxHeartbeats 8000000 in
set_option maxRecDepth 200000 in
theorem z_cells (cy : Nat → ClassId) (q0 : Nat) (u : Nat → Nat) : [zco 5 q0 [.ref (u 0), .ref (u 3), .ref (u 4), .ref (u 21), .ref (u 22), .ref (u 23), .ref (u 24), .ref (u 29), .int 0, .int 0, .int 0, .int 0, .int 60], zco 4 (u 0) [.ref (u 1), .ref (u 2), .int 0, .int 0], zci cy 12 (u 1), zci cy 9 (u 2), zcq cy 8 16 (u 3) (fun j => some (zad (zLs q0 u) (zgt 4 j))), zcq cy 10 16 (u 4) (fun j => some (zad (zLs q0 u) (zgt 5 j))), zci cy 16 (u 5), zci cy 16 (u 6), zci cy 16 (u 7), zci cy 16 (u 8), zci cy 16 (u 9), zci cy 16 (u 10), zci cy 16 (u 11), zci cy 16 (u 12), zci cy 16 (u 13), zci cy 16 (u 14), zci cy 16 (u 15), zci cy 16 (u 16), zci cy 16 (u 17), zci cy 16 (u 18), zci cy 16 (u 19), zci cy 16 (u 20), zci cy 16 (u 21), zcq cy 7 6 (u 22) (fun j => some (zad (zLs q0 u) (zgt 23 j))), zcq cy 9 5 (u 23) (fun j => some (zad (zLs q0 u) (zgt 24 j))), zco 0 (u 24) [.ref (u 25), .ref (u 26), .ref (u 27), .ref (u 28)], zci cy 16 (u 25), zci cy 16 (u 26), zci cy 16 (u 27), zci cy 16 (u 28), zco 0 (u 29) [.ref (u 30), .ref (u 31), .ref (u 32), .ref (u 33)], zci cy 16 (u 30), zci cy 16 (u 31), zci cy 16 (u 32), zci cy 16 (u 33), zco 2 (u 34) [.ref (u 35), .int (-1), .int 0], zco 4 (u 35) [.ref (u 36), .ref (u 37), .int 0, .int 0], zci cy 12 (u 36), zci cy 9 (u 37), zco 2 (u 38) [.ref (u 39), .int (-1), .int 0], zco 4 (u 39) [.ref (u 40), .ref (u 41), .int 0, .int 0], zci cy 12 (u 40), zci cy 9 (u 41), zco 2 (u 42) [.ref (u 43), .int (-1), .int 0], zco 4 (u 43) [.ref (u 44), .ref (u 45), .int 0, .int 0], zci cy 12 (u 44), zci cy 9 (u 45), zco 2 (u 46) [.ref (u 47), .int (-1), .int 0], zco 4 (u 47) [.ref (u 48), .ref (u 49), .int 0, .int 0], zci cy 12 (u 48), zci cy 9 (u 49), zco 2 (u 50) [.ref (u 51), .int (-1), .int 0], zco 4 (u 51) [.ref (u 52), .ref (u 53), .int 0, .int 0], zci cy 12 (u 52), zci cy 9 (u 53), zco 2 (u 54) [.ref (u 55), .int (-1), .int 0], zco 4 (u 55) [.ref (u 56), .ref (u 57), .int 0, .int 0], zci cy 12 (u 56), zci cy 9 (u 57), zco 2 (u 58) [.ref (u 59), .int (-1), .int 0], zco 4 (u 59) [.ref (u 60), .ref (u 61), .int 0, .int 0], zci cy 12 (u 60), zci cy 9 (u 61), zco 2 (u 62) [.ref (u 63), .int (-1), .int 0], zco 4 (u 63) [.ref (u 64), .ref (u 65), .int 0, .int 0], zci cy 12 (u 64), zci cy 9 (u 65), zco 2 (u 66) [.ref (u 67), .int (-1), .int 0], zco 4 (u 67) [.ref (u 68), .ref (u 69), .int 0, .int 0], zci cy 12 (u 68), zci cy 9 (u 69), zco 2 (u 70) [.ref (u 71), .int (-1), .int 0], zco 4 (u 71) [.ref (u 72), .ref (u 73), .int 0, .int 0], zci cy 12 (u 72), zci cy 9 (u 73), zco 2 (u 74) [.ref (u 75), .int (-1), .int 0], zco 4 (u 75) [.ref (u 76), .ref (u 77), .int 0, .int 0], zci cy 12 (u 76), zci cy 9 (u 77), zco 2 (u 78) [.ref (u 79), .int (-1), .int 0], zco 4 (u 79) [.ref (u 80), .ref (u 81), .int 0, .int 0], zci cy 12 (u 80), zci cy 9 (u 81), zco 2 (u 82) [.ref (u 83), .int (-1), .int 0], zco 4 (u 83) [.ref (u 84), .ref (u 85), .int 0, .int 0], zci cy 12 (u 84), zci cy 9 (u 85), zco 2 (u 86) [.ref (u 87), .int (-1), .int 0], zco 4 (u 87) [.ref (u 88), .ref (u 89), .int 0, .int 0], zci cy 12 (u 88), zci cy 9 (u 89), zco 2 (u 90) [.ref (u 91), .int (-1), .int 0], zco 4 (u 91) [.ref (u 92), .ref (u 93), .int 0, .int 0], zci cy 12 (u 92), zci cy 9 (u 93), zco 2 (u 94) [.ref (u 95), .int (-1), .int 0], zco 4 (u 95) [.ref (u 96), .ref (u 97), .int 0, .int 0], zci cy 12 (u 96), zci cy 9 (u 97), zco 1 (u 98) [.int 0, .int 0, .int 0, .int 0, .int 0], zco 1 (u 99) [.int 0, .int 0, .int 0, .int 0, .int 0], zco 1 (u 100) [.int 0, .int 0, .int 0, .int 0, .int 0], zco 1 (u 101) [.int 0, .int 0, .int 0, .int 0, .int 0], zco 1 (u 102) [.int 0, .int 0, .int 0, .int 0, .int 0], zco 1 (u 103) [.int 0, .int 0, .int 0, .int 0, .int 0], zco 3 (u 104) [.ref (u 105), .ref (u 106), .ref (u 107), .ref (u 108), .int 1, .int 0, .int 0, .int 0], zcf cy 10 (u 105) (upd (fun _ => 0) 0 (-1)), zci cy 10 (u 106), zcf cy 10 (u 107) (upd (fun _ => 0) 0 (-1)), zci cy 10 (u 108), zco 3 (u 109) [.ref (u 110), .ref (u 111), .ref (u 112), .ref (u 113), .int 1, .int 0, .int 0, .int 0], zcf cy 10 (u 110) (upd (fun _ => 0) 0 (-1)), zci cy 10 (u 111), zcf cy 10 (u 112) (upd (fun _ => 0) 0 (-1)), zci cy 10 (u 113), zco 3 (u 114) [.ref (u 115), .ref (u 116), .ref (u 117), .ref (u 118), .int 1, .int 0, .int 0, .int 0], zcf cy 10 (u 115) (upd (fun _ => 0) 0 (-1)), zci cy 10 (u 116), zcf cy 10 (u 117) (upd (fun _ => 0) 0 (-1)), zci cy 10 (u 118), zco 3 (u 119) [.ref (u 120), .ref (u 121), .ref (u 122), .ref (u 123), .int 1, .int 0, .int 0, .int 0], zcf cy 10 (u 120) (upd (fun _ => 0) 0 (-1)), zci cy 10 (u 121), zcf cy 10 (u 122) (upd (fun _ => 0) 0 (-1)), zci cy 10 (u 123), zco 3 (u 124) [.ref (u 125), .ref (u 126), .ref (u 127), .ref (u 128), .int 1, .int 0, .int 0, .int 0], zcf cy 10 (u 125) (upd (fun _ => 0) 0 (-1)), zci cy 10 (u 126), zcf cy 10 (u 127) (upd (fun _ => 0) 0 (-1)), zci cy 10 (u 128)] = (List.range 130).map (fun i => (zad (zLs q0 u) i, zT cy (zLs q0 u) i)) := rfl
/-- what is owed of the pure part: from the start, the law comes to its end -/
def zPure : Prop := ∀ (L : List Nat), L.length = 130 → zNd L → ∀ (Ln : Nat) (xs : Nat → Int32), Ln ≤ 260 → ∃ I A : zH, f_L_law (zFF L) (zGG L) Ln xs (zad L 0) (zI0 L) (zA0 L) = some (I, A)
set_option maxHeartbeats 8000000 in
set_option maxRecDepth 200000 in
theorem z_start (hpure : zPure) {p : Program} {e : Env} {s : State} {m : MethodId} {below : List Frame} {meth : Method} {c : Code} (l : Launch) {b Ln : Nat} {xs : Nat → Int32} {Q : State → Prop} {R : Room} (hRf : 15 ≤ R.frames) (hRl : 300 ≤ R.locals) (hRc : 200 ≤ R.cells) (hRs : 2000 ≤ R.slots) (hL : Ln ≤ 260) (hx : p.tables.exec = Jvm.exec) (hb : c.code = code) (hml : c.maxLocals = 17) (hown : s.vm.findClass RL = some m.cls) (hts : ∀ w ∈ lw_tbl, w.before #[Value.ref b] s = true) (hX : va_X b Ln xs s s.heap) (hbs : b < s.heap.size) (hlk : meth.locks = false)
    (hend : ∀ (H : Heap) (ls : Array Slot), W p l e R s m #[Value.ref b] below meth c H [] R.cells R.slots Q (F0 m 726 ls [.int 1])) : W p l e R s m #[Value.ref b] below meth c s.heap [] 0 0 Q (entryFrame m ([Value.ref b] : List Value).toArray 17) := by
  have hW : ∀ w ∈ zW, w.before #[Value.ref b] s = true := fun w h => hts w (List.mem_filter.mp h).1
  have hcb := z_cb hts
  have hnb := z_nbs hts
  obtain ⟨D, cy, hK⟩ := z_known hW hcb
  have C : ZY p s m #[Value.ref b] meth c cL_law RL 17 D cy (fun q => s.heap.size ≤ q) := ⟨hx, hb, hml, hW, hown, hlk, hK, fun _ h => h, hcb⟩
  have go : ZX p l e R s m #[Value.ref b] below meth c 17 D (fun q => s.heap.size ≤ q) 0 0 Q [] 0 [(0, .ref b)] [] := by
    refine zx_new C [.null, .null, .null, .null, .null, .null, .null, .null, .int 0, .int 0, .int 0, .int 0, .int 0] tyX5 (ci := 5) rfl zinX5 tyX5_ok wd_15 wd_16 wd_1 zdfX5 (Nat.le_trans (Nat.le_of_ble_eq_true rfl) hRc) (Nat.le_trans (Nat.le_of_ble_eq_true rfl) hRs) dL_law_0 (fun q0 => ?_)
    refine zx_widen C (k := 1) (n := 13) (Nat.le_of_ble_eq_true rfl) (Nat.le_of_ble_eq_true rfl) ?_
    refine zx_ws C (w1 := [zco 5 q0 [.null, .null, .null, .null, .null, .null, .null, .null, .int 0, .int 0, .int 0, .int 0, .int 0]]) rfl ?_
    refine zx_dup C rfl dL_law_3 ?_
    refine zx_callI C (k_X5_init l D cy q0) wd_17 wd_18 wd_1 wd_19 rfl (by decide +kernel) ⟨Nat.le_trans (Nat.le_of_ble_eq_true rfl) hRf, Nat.le_trans (Nat.le_of_ble_eq_true rfl) hRl⟩ rfl rfl ⟨Nat.le_trans (Nat.le_of_ble_eq_true rfl) hRc, Nat.le_trans (Nat.le_of_ble_eq_true rfl) hRs⟩ (wr := []) [0] [] rfl rfl rfl rfl rfl (by decide) (Nat.le_of_ble_eq_true rfl) dL_law_4 (fun u => ?_)
    refine zx_widen C (k := 130) (n := 1207) (Nat.le_of_ble_eq_true rfl) (Nat.le_of_ble_eq_true rfl) ?_
    refine zx_ws C (w1 := [zco 5 q0 [.ref (u 0), .ref (u 3), .ref (u 4), .ref (u 21), .ref (u 22), .ref (u 23), .ref (u 24), .ref (u 29), .int 0, .int 0, .int 0, .int 0, .int 60], zco 4 (u 0) [.ref (u 1), .ref (u 2), .int 0, .int 0], zci cy 12 (u 1), zci cy 9 (u 2), zcq cy 8 16 (u 3) (va_up (va_up (va_up (va_up (va_up (va_up (va_up (va_up (va_up (va_up (va_up (va_up (va_up (va_up (va_up (va_up (fun _ => none) 0 (some (u 34))) 1 (some (u 38))) 2 (some (u 42))) 3 (some (u 46))) 4 (some (u 50))) 5 (some (u 54))) 6 (some (u 58))) 7 (some (u 62))) 8 (some (u 66))) 9 (some (u 70))) 10 (some (u 74))) 11 (some (u 78))) 12 (some (u 82))) 13 (some (u 86))) 14 (some (u 90))) 15 (some (u 94))), zcq cy 10 16 (u 4) (va_up (va_up (va_up (va_up (va_up (va_up (va_up (va_up (va_up (va_up (va_up (va_up (va_up (va_up (va_up (va_up (fun _ => none) 0 (some (u 5))) 1 (some (u 6))) 2 (some (u 7))) 3 (some (u 8))) 4 (some (u 9))) 5 (some (u 10))) 6 (some (u 11))) 7 (some (u 12))) 8 (some (u 13))) 9 (some (u 14))) 10 (some (u 15))) 11 (some (u 16))) 12 (some (u 17))) 13 (some (u 18))) 14 (some (u 19))) 15 (some (u 20))), zci cy 16 (u 5), zci cy 16 (u 6), zci cy 16 (u 7), zci cy 16 (u 8), zci cy 16 (u 9), zci cy 16 (u 10), zci cy 16 (u 11), zci cy 16 (u 12), zci cy 16 (u 13), zci cy 16 (u 14), zci cy 16 (u 15), zci cy 16 (u 16), zci cy 16 (u 17), zci cy 16 (u 18), zci cy 16 (u 19), zci cy 16 (u 20), zci cy 16 (u 21), zcq cy 7 6 (u 22) (va_up (va_up (va_up (va_up (va_up (va_up (fun _ => none) 0 (some (u 98))) 1 (some (u 99))) 2 (some (u 100))) 3 (some (u 101))) 4 (some (u 102))) 5 (some (u 103))), zcq cy 9 5 (u 23) (va_up (va_up (va_up (va_up (va_up (fun _ => none) 0 (some (u 104))) 1 (some (u 109))) 2 (some (u 114))) 3 (some (u 119))) 4 (some (u 124))), zco 0 (u 24) [.ref (u 25), .ref (u 26), .ref (u 27), .ref (u 28)], zci cy 16 (u 25), zci cy 16 (u 26), zci cy 16 (u 27), zci cy 16 (u 28), zco 0 (u 29) [.ref (u 30), .ref (u 31), .ref (u 32), .ref (u 33)], zci cy 16 (u 30), zci cy 16 (u 31), zci cy 16 (u 32), zci cy 16 (u 33), zco 2 (u 34) [.ref (u 35), .int (-1), .int 0], zco 4 (u 35) [.ref (u 36), .ref (u 37), .int 0, .int 0], zci cy 12 (u 36), zci cy 9 (u 37), zco 2 (u 38) [.ref (u 39), .int (-1), .int 0], zco 4 (u 39) [.ref (u 40), .ref (u 41), .int 0, .int 0], zci cy 12 (u 40), zci cy 9 (u 41), zco 2 (u 42) [.ref (u 43), .int (-1), .int 0], zco 4 (u 43) [.ref (u 44), .ref (u 45), .int 0, .int 0], zci cy 12 (u 44), zci cy 9 (u 45), zco 2 (u 46) [.ref (u 47), .int (-1), .int 0], zco 4 (u 47) [.ref (u 48), .ref (u 49), .int 0, .int 0], zci cy 12 (u 48), zci cy 9 (u 49), zco 2 (u 50) [.ref (u 51), .int (-1), .int 0], zco 4 (u 51) [.ref (u 52), .ref (u 53), .int 0, .int 0], zci cy 12 (u 52), zci cy 9 (u 53), zco 2 (u 54) [.ref (u 55), .int (-1), .int 0], zco 4 (u 55) [.ref (u 56), .ref (u 57), .int 0, .int 0], zci cy 12 (u 56), zci cy 9 (u 57), zco 2 (u 58) [.ref (u 59), .int (-1), .int 0], zco 4 (u 59) [.ref (u 60), .ref (u 61), .int 0, .int 0], zci cy 12 (u 60), zci cy 9 (u 61), zco 2 (u 62) [.ref (u 63), .int (-1), .int 0], zco 4 (u 63) [.ref (u 64), .ref (u 65), .int 0, .int 0], zci cy 12 (u 64), zci cy 9 (u 65), zco 2 (u 66) [.ref (u 67), .int (-1), .int 0], zco 4 (u 67) [.ref (u 68), .ref (u 69), .int 0, .int 0], zci cy 12 (u 68), zci cy 9 (u 69), zco 2 (u 70) [.ref (u 71), .int (-1), .int 0], zco 4 (u 71) [.ref (u 72), .ref (u 73), .int 0, .int 0], zci cy 12 (u 72), zci cy 9 (u 73), zco 2 (u 74) [.ref (u 75), .int (-1), .int 0], zco 4 (u 75) [.ref (u 76), .ref (u 77), .int 0, .int 0], zci cy 12 (u 76), zci cy 9 (u 77), zco 2 (u 78) [.ref (u 79), .int (-1), .int 0], zco 4 (u 79) [.ref (u 80), .ref (u 81), .int 0, .int 0], zci cy 12 (u 80), zci cy 9 (u 81), zco 2 (u 82) [.ref (u 83), .int (-1), .int 0], zco 4 (u 83) [.ref (u 84), .ref (u 85), .int 0, .int 0], zci cy 12 (u 84), zci cy 9 (u 85), zco 2 (u 86) [.ref (u 87), .int (-1), .int 0], zco 4 (u 87) [.ref (u 88), .ref (u 89), .int 0, .int 0], zci cy 12 (u 88), zci cy 9 (u 89), zco 2 (u 90) [.ref (u 91), .int (-1), .int 0], zco 4 (u 91) [.ref (u 92), .ref (u 93), .int 0, .int 0], zci cy 12 (u 92), zci cy 9 (u 93), zco 2 (u 94) [.ref (u 95), .int (-1), .int 0], zco 4 (u 95) [.ref (u 96), .ref (u 97), .int 0, .int 0], zci cy 12 (u 96), zci cy 9 (u 97), zco 1 (u 98) [.int 0, .int 0, .int 0, .int 0, .int 0], zco 1 (u 99) [.int 0, .int 0, .int 0, .int 0, .int 0], zco 1 (u 100) [.int 0, .int 0, .int 0, .int 0, .int 0], zco 1 (u 101) [.int 0, .int 0, .int 0, .int 0, .int 0], zco 1 (u 102) [.int 0, .int 0, .int 0, .int 0, .int 0], zco 1 (u 103) [.int 0, .int 0, .int 0, .int 0, .int 0], zco 3 (u 104) [.ref (u 105), .ref (u 106), .ref (u 107), .ref (u 108), .int 1, .int 0, .int 0, .int 0], zcf cy 10 (u 105) (upd (fun _ => 0) 0 (-1)), zci cy 10 (u 106), zcf cy 10 (u 107) (upd (fun _ => 0) 0 (-1)), zci cy 10 (u 108), zco 3 (u 109) [.ref (u 110), .ref (u 111), .ref (u 112), .ref (u 113), .int 1, .int 0, .int 0, .int 0], zcf cy 10 (u 110) (upd (fun _ => 0) 0 (-1)), zci cy 10 (u 111), zcf cy 10 (u 112) (upd (fun _ => 0) 0 (-1)), zci cy 10 (u 113), zco 3 (u 114) [.ref (u 115), .ref (u 116), .ref (u 117), .ref (u 118), .int 1, .int 0, .int 0, .int 0], zcf cy 10 (u 115) (upd (fun _ => 0) 0 (-1)), zci cy 10 (u 116), zcf cy 10 (u 117) (upd (fun _ => 0) 0 (-1)), zci cy 10 (u 118), zco 3 (u 119) [.ref (u 120), .ref (u 121), .ref (u 122), .ref (u 123), .int 1, .int 0, .int 0, .int 0], zcf cy 10 (u 120) (upd (fun _ => 0) 0 (-1)), zci cy 10 (u 121), zcf cy 10 (u 122) (upd (fun _ => 0) 0 (-1)), zci cy 10 (u 123), zco 3 (u 124) [.ref (u 125), .ref (u 126), .ref (u 127), .ref (u 128), .int 1, .int 0, .int 0, .int 0], zcf cy 10 (u 125) (upd (fun _ => 0) 0 (-1)), zci cy 10 (u 126), zcf cy 10 (u 127) (upd (fun _ => 0) 0 (-1)), zci cy 10 (u 128)]) rfl ?_
    refine zx_q (k := 4) (kk := 8) (n := 16) (g := fun j => some (zad (zLs q0 u) (zgt 4 j))) (w1 := [zco 5 q0 [.ref (u 0), .ref (u 3), .ref (u 4), .ref (u 21), .ref (u 22), .ref (u 23), .ref (u 24), .ref (u 29), .int 0, .int 0, .int 0, .int 0, .int 60], zco 4 (u 0) [.ref (u 1), .ref (u 2), .int 0, .int 0], zci cy 12 (u 1), zci cy 9 (u 2), zcq cy 8 16 (u 3) (fun j => some (zad (zLs q0 u) (zgt 4 j))), zcq cy 10 16 (u 4) (va_up (va_up (va_up (va_up (va_up (va_up (va_up (va_up (va_up (va_up (va_up (va_up (va_up (va_up (va_up (va_up (fun _ => none) 0 (some (u 5))) 1 (some (u 6))) 2 (some (u 7))) 3 (some (u 8))) 4 (some (u 9))) 5 (some (u 10))) 6 (some (u 11))) 7 (some (u 12))) 8 (some (u 13))) 9 (some (u 14))) 10 (some (u 15))) 11 (some (u 16))) 12 (some (u 17))) 13 (some (u 18))) 14 (some (u 19))) 15 (some (u 20))), zci cy 16 (u 5), zci cy 16 (u 6), zci cy 16 (u 7), zci cy 16 (u 8), zci cy 16 (u 9), zci cy 16 (u 10), zci cy 16 (u 11), zci cy 16 (u 12), zci cy 16 (u 13), zci cy 16 (u 14), zci cy 16 (u 15), zci cy 16 (u 16), zci cy 16 (u 17), zci cy 16 (u 18), zci cy 16 (u 19), zci cy 16 (u 20), zci cy 16 (u 21), zcq cy 7 6 (u 22) (va_up (va_up (va_up (va_up (va_up (va_up (fun _ => none) 0 (some (u 98))) 1 (some (u 99))) 2 (some (u 100))) 3 (some (u 101))) 4 (some (u 102))) 5 (some (u 103))), zcq cy 9 5 (u 23) (va_up (va_up (va_up (va_up (va_up (fun _ => none) 0 (some (u 104))) 1 (some (u 109))) 2 (some (u 114))) 3 (some (u 119))) 4 (some (u 124))), zco 0 (u 24) [.ref (u 25), .ref (u 26), .ref (u 27), .ref (u 28)], zci cy 16 (u 25), zci cy 16 (u 26), zci cy 16 (u 27), zci cy 16 (u 28), zco 0 (u 29) [.ref (u 30), .ref (u 31), .ref (u 32), .ref (u 33)], zci cy 16 (u 30), zci cy 16 (u 31), zci cy 16 (u 32), zci cy 16 (u 33), zco 2 (u 34) [.ref (u 35), .int (-1), .int 0], zco 4 (u 35) [.ref (u 36), .ref (u 37), .int 0, .int 0], zci cy 12 (u 36), zci cy 9 (u 37), zco 2 (u 38) [.ref (u 39), .int (-1), .int 0], zco 4 (u 39) [.ref (u 40), .ref (u 41), .int 0, .int 0], zci cy 12 (u 40), zci cy 9 (u 41), zco 2 (u 42) [.ref (u 43), .int (-1), .int 0], zco 4 (u 43) [.ref (u 44), .ref (u 45), .int 0, .int 0], zci cy 12 (u 44), zci cy 9 (u 45), zco 2 (u 46) [.ref (u 47), .int (-1), .int 0], zco 4 (u 47) [.ref (u 48), .ref (u 49), .int 0, .int 0], zci cy 12 (u 48), zci cy 9 (u 49), zco 2 (u 50) [.ref (u 51), .int (-1), .int 0], zco 4 (u 51) [.ref (u 52), .ref (u 53), .int 0, .int 0], zci cy 12 (u 52), zci cy 9 (u 53), zco 2 (u 54) [.ref (u 55), .int (-1), .int 0], zco 4 (u 55) [.ref (u 56), .ref (u 57), .int 0, .int 0], zci cy 12 (u 56), zci cy 9 (u 57), zco 2 (u 58) [.ref (u 59), .int (-1), .int 0], zco 4 (u 59) [.ref (u 60), .ref (u 61), .int 0, .int 0], zci cy 12 (u 60), zci cy 9 (u 61), zco 2 (u 62) [.ref (u 63), .int (-1), .int 0], zco 4 (u 63) [.ref (u 64), .ref (u 65), .int 0, .int 0], zci cy 12 (u 64), zci cy 9 (u 65), zco 2 (u 66) [.ref (u 67), .int (-1), .int 0], zco 4 (u 67) [.ref (u 68), .ref (u 69), .int 0, .int 0], zci cy 12 (u 68), zci cy 9 (u 69), zco 2 (u 70) [.ref (u 71), .int (-1), .int 0], zco 4 (u 71) [.ref (u 72), .ref (u 73), .int 0, .int 0], zci cy 12 (u 72), zci cy 9 (u 73), zco 2 (u 74) [.ref (u 75), .int (-1), .int 0], zco 4 (u 75) [.ref (u 76), .ref (u 77), .int 0, .int 0], zci cy 12 (u 76), zci cy 9 (u 77), zco 2 (u 78) [.ref (u 79), .int (-1), .int 0], zco 4 (u 79) [.ref (u 80), .ref (u 81), .int 0, .int 0], zci cy 12 (u 80), zci cy 9 (u 81), zco 2 (u 82) [.ref (u 83), .int (-1), .int 0], zco 4 (u 83) [.ref (u 84), .ref (u 85), .int 0, .int 0], zci cy 12 (u 84), zci cy 9 (u 85), zco 2 (u 86) [.ref (u 87), .int (-1), .int 0], zco 4 (u 87) [.ref (u 88), .ref (u 89), .int 0, .int 0], zci cy 12 (u 88), zci cy 9 (u 89), zco 2 (u 90) [.ref (u 91), .int (-1), .int 0], zco 4 (u 91) [.ref (u 92), .ref (u 93), .int 0, .int 0], zci cy 12 (u 92), zci cy 9 (u 93), zco 2 (u 94) [.ref (u 95), .int (-1), .int 0], zco 4 (u 95) [.ref (u 96), .ref (u 97), .int 0, .int 0], zci cy 12 (u 96), zci cy 9 (u 97), zco 1 (u 98) [.int 0, .int 0, .int 0, .int 0, .int 0], zco 1 (u 99) [.int 0, .int 0, .int 0, .int 0, .int 0], zco 1 (u 100) [.int 0, .int 0, .int 0, .int 0, .int 0], zco 1 (u 101) [.int 0, .int 0, .int 0, .int 0, .int 0], zco 1 (u 102) [.int 0, .int 0, .int 0, .int 0, .int 0], zco 1 (u 103) [.int 0, .int 0, .int 0, .int 0, .int 0], zco 3 (u 104) [.ref (u 105), .ref (u 106), .ref (u 107), .ref (u 108), .int 1, .int 0, .int 0, .int 0], zcf cy 10 (u 105) (upd (fun _ => 0) 0 (-1)), zci cy 10 (u 106), zcf cy 10 (u 107) (upd (fun _ => 0) 0 (-1)), zci cy 10 (u 108), zco 3 (u 109) [.ref (u 110), .ref (u 111), .ref (u 112), .ref (u 113), .int 1, .int 0, .int 0, .int 0], zcf cy 10 (u 110) (upd (fun _ => 0) 0 (-1)), zci cy 10 (u 111), zcf cy 10 (u 112) (upd (fun _ => 0) 0 (-1)), zci cy 10 (u 113), zco 3 (u 114) [.ref (u 115), .ref (u 116), .ref (u 117), .ref (u 118), .int 1, .int 0, .int 0, .int 0], zcf cy 10 (u 115) (upd (fun _ => 0) 0 (-1)), zci cy 10 (u 116), zcf cy 10 (u 117) (upd (fun _ => 0) 0 (-1)), zci cy 10 (u 118), zco 3 (u 119) [.ref (u 120), .ref (u 121), .ref (u 122), .ref (u 123), .int 1, .int 0, .int 0, .int 0], zcf cy 10 (u 120) (upd (fun _ => 0) 0 (-1)), zci cy 10 (u 121), zcf cy 10 (u 122) (upd (fun _ => 0) 0 (-1)), zci cy 10 (u 123), zco 3 (u 124) [.ref (u 125), .ref (u 126), .ref (u 127), .ref (u 128), .int 1, .int 0, .int 0, .int 0], zcf cy 10 (u 125) (upd (fun _ => 0) 0 (-1)), zci cy 10 (u 126), zcf cy 10 (u 127) (upd (fun _ => 0) 0 (-1)), zci cy 10 (u 128)]) rfl (fun j hj => ?_) rfl ?_
    · match j, hj with
      | 0, _ => rfl
      | 1, _ => rfl
      | 2, _ => rfl
      | 3, _ => rfl
      | 4, _ => rfl
      | 5, _ => rfl
      | 6, _ => rfl
      | 7, _ => rfl
      | 8, _ => rfl
      | 9, _ => rfl
      | 10, _ => rfl
      | 11, _ => rfl
      | 12, _ => rfl
      | 13, _ => rfl
      | 14, _ => rfl
      | 15, _ => rfl
      | j + 16, h => exact absurd h (by omega)
    refine zx_q (k := 5) (kk := 10) (n := 16) (g := fun j => some (zad (zLs q0 u) (zgt 5 j))) (w1 := [zco 5 q0 [.ref (u 0), .ref (u 3), .ref (u 4), .ref (u 21), .ref (u 22), .ref (u 23), .ref (u 24), .ref (u 29), .int 0, .int 0, .int 0, .int 0, .int 60], zco 4 (u 0) [.ref (u 1), .ref (u 2), .int 0, .int 0], zci cy 12 (u 1), zci cy 9 (u 2), zcq cy 8 16 (u 3) (fun j => some (zad (zLs q0 u) (zgt 4 j))), zcq cy 10 16 (u 4) (fun j => some (zad (zLs q0 u) (zgt 5 j))), zci cy 16 (u 5), zci cy 16 (u 6), zci cy 16 (u 7), zci cy 16 (u 8), zci cy 16 (u 9), zci cy 16 (u 10), zci cy 16 (u 11), zci cy 16 (u 12), zci cy 16 (u 13), zci cy 16 (u 14), zci cy 16 (u 15), zci cy 16 (u 16), zci cy 16 (u 17), zci cy 16 (u 18), zci cy 16 (u 19), zci cy 16 (u 20), zci cy 16 (u 21), zcq cy 7 6 (u 22) (va_up (va_up (va_up (va_up (va_up (va_up (fun _ => none) 0 (some (u 98))) 1 (some (u 99))) 2 (some (u 100))) 3 (some (u 101))) 4 (some (u 102))) 5 (some (u 103))), zcq cy 9 5 (u 23) (va_up (va_up (va_up (va_up (va_up (fun _ => none) 0 (some (u 104))) 1 (some (u 109))) 2 (some (u 114))) 3 (some (u 119))) 4 (some (u 124))), zco 0 (u 24) [.ref (u 25), .ref (u 26), .ref (u 27), .ref (u 28)], zci cy 16 (u 25), zci cy 16 (u 26), zci cy 16 (u 27), zci cy 16 (u 28), zco 0 (u 29) [.ref (u 30), .ref (u 31), .ref (u 32), .ref (u 33)], zci cy 16 (u 30), zci cy 16 (u 31), zci cy 16 (u 32), zci cy 16 (u 33), zco 2 (u 34) [.ref (u 35), .int (-1), .int 0], zco 4 (u 35) [.ref (u 36), .ref (u 37), .int 0, .int 0], zci cy 12 (u 36), zci cy 9 (u 37), zco 2 (u 38) [.ref (u 39), .int (-1), .int 0], zco 4 (u 39) [.ref (u 40), .ref (u 41), .int 0, .int 0], zci cy 12 (u 40), zci cy 9 (u 41), zco 2 (u 42) [.ref (u 43), .int (-1), .int 0], zco 4 (u 43) [.ref (u 44), .ref (u 45), .int 0, .int 0], zci cy 12 (u 44), zci cy 9 (u 45), zco 2 (u 46) [.ref (u 47), .int (-1), .int 0], zco 4 (u 47) [.ref (u 48), .ref (u 49), .int 0, .int 0], zci cy 12 (u 48), zci cy 9 (u 49), zco 2 (u 50) [.ref (u 51), .int (-1), .int 0], zco 4 (u 51) [.ref (u 52), .ref (u 53), .int 0, .int 0], zci cy 12 (u 52), zci cy 9 (u 53), zco 2 (u 54) [.ref (u 55), .int (-1), .int 0], zco 4 (u 55) [.ref (u 56), .ref (u 57), .int 0, .int 0], zci cy 12 (u 56), zci cy 9 (u 57), zco 2 (u 58) [.ref (u 59), .int (-1), .int 0], zco 4 (u 59) [.ref (u 60), .ref (u 61), .int 0, .int 0], zci cy 12 (u 60), zci cy 9 (u 61), zco 2 (u 62) [.ref (u 63), .int (-1), .int 0], zco 4 (u 63) [.ref (u 64), .ref (u 65), .int 0, .int 0], zci cy 12 (u 64), zci cy 9 (u 65), zco 2 (u 66) [.ref (u 67), .int (-1), .int 0], zco 4 (u 67) [.ref (u 68), .ref (u 69), .int 0, .int 0], zci cy 12 (u 68), zci cy 9 (u 69), zco 2 (u 70) [.ref (u 71), .int (-1), .int 0], zco 4 (u 71) [.ref (u 72), .ref (u 73), .int 0, .int 0], zci cy 12 (u 72), zci cy 9 (u 73), zco 2 (u 74) [.ref (u 75), .int (-1), .int 0], zco 4 (u 75) [.ref (u 76), .ref (u 77), .int 0, .int 0], zci cy 12 (u 76), zci cy 9 (u 77), zco 2 (u 78) [.ref (u 79), .int (-1), .int 0], zco 4 (u 79) [.ref (u 80), .ref (u 81), .int 0, .int 0], zci cy 12 (u 80), zci cy 9 (u 81), zco 2 (u 82) [.ref (u 83), .int (-1), .int 0], zco 4 (u 83) [.ref (u 84), .ref (u 85), .int 0, .int 0], zci cy 12 (u 84), zci cy 9 (u 85), zco 2 (u 86) [.ref (u 87), .int (-1), .int 0], zco 4 (u 87) [.ref (u 88), .ref (u 89), .int 0, .int 0], zci cy 12 (u 88), zci cy 9 (u 89), zco 2 (u 90) [.ref (u 91), .int (-1), .int 0], zco 4 (u 91) [.ref (u 92), .ref (u 93), .int 0, .int 0], zci cy 12 (u 92), zci cy 9 (u 93), zco 2 (u 94) [.ref (u 95), .int (-1), .int 0], zco 4 (u 95) [.ref (u 96), .ref (u 97), .int 0, .int 0], zci cy 12 (u 96), zci cy 9 (u 97), zco 1 (u 98) [.int 0, .int 0, .int 0, .int 0, .int 0], zco 1 (u 99) [.int 0, .int 0, .int 0, .int 0, .int 0], zco 1 (u 100) [.int 0, .int 0, .int 0, .int 0, .int 0], zco 1 (u 101) [.int 0, .int 0, .int 0, .int 0, .int 0], zco 1 (u 102) [.int 0, .int 0, .int 0, .int 0, .int 0], zco 1 (u 103) [.int 0, .int 0, .int 0, .int 0, .int 0], zco 3 (u 104) [.ref (u 105), .ref (u 106), .ref (u 107), .ref (u 108), .int 1, .int 0, .int 0, .int 0], zcf cy 10 (u 105) (upd (fun _ => 0) 0 (-1)), zci cy 10 (u 106), zcf cy 10 (u 107) (upd (fun _ => 0) 0 (-1)), zci cy 10 (u 108), zco 3 (u 109) [.ref (u 110), .ref (u 111), .ref (u 112), .ref (u 113), .int 1, .int 0, .int 0, .int 0], zcf cy 10 (u 110) (upd (fun _ => 0) 0 (-1)), zci cy 10 (u 111), zcf cy 10 (u 112) (upd (fun _ => 0) 0 (-1)), zci cy 10 (u 113), zco 3 (u 114) [.ref (u 115), .ref (u 116), .ref (u 117), .ref (u 118), .int 1, .int 0, .int 0, .int 0], zcf cy 10 (u 115) (upd (fun _ => 0) 0 (-1)), zci cy 10 (u 116), zcf cy 10 (u 117) (upd (fun _ => 0) 0 (-1)), zci cy 10 (u 118), zco 3 (u 119) [.ref (u 120), .ref (u 121), .ref (u 122), .ref (u 123), .int 1, .int 0, .int 0, .int 0], zcf cy 10 (u 120) (upd (fun _ => 0) 0 (-1)), zci cy 10 (u 121), zcf cy 10 (u 122) (upd (fun _ => 0) 0 (-1)), zci cy 10 (u 123), zco 3 (u 124) [.ref (u 125), .ref (u 126), .ref (u 127), .ref (u 128), .int 1, .int 0, .int 0, .int 0], zcf cy 10 (u 125) (upd (fun _ => 0) 0 (-1)), zci cy 10 (u 126), zcf cy 10 (u 127) (upd (fun _ => 0) 0 (-1)), zci cy 10 (u 128)]) rfl (fun j hj => ?_) rfl ?_
    · match j, hj with
      | 0, _ => rfl
      | 1, _ => rfl
      | 2, _ => rfl
      | 3, _ => rfl
      | 4, _ => rfl
      | 5, _ => rfl
      | 6, _ => rfl
      | 7, _ => rfl
      | 8, _ => rfl
      | 9, _ => rfl
      | 10, _ => rfl
      | 11, _ => rfl
      | 12, _ => rfl
      | 13, _ => rfl
      | 14, _ => rfl
      | 15, _ => rfl
      | j + 16, h => exact absurd h (by omega)
    refine zx_q (k := 23) (kk := 7) (n := 6) (g := fun j => some (zad (zLs q0 u) (zgt 23 j))) (w1 := [zco 5 q0 [.ref (u 0), .ref (u 3), .ref (u 4), .ref (u 21), .ref (u 22), .ref (u 23), .ref (u 24), .ref (u 29), .int 0, .int 0, .int 0, .int 0, .int 60], zco 4 (u 0) [.ref (u 1), .ref (u 2), .int 0, .int 0], zci cy 12 (u 1), zci cy 9 (u 2), zcq cy 8 16 (u 3) (fun j => some (zad (zLs q0 u) (zgt 4 j))), zcq cy 10 16 (u 4) (fun j => some (zad (zLs q0 u) (zgt 5 j))), zci cy 16 (u 5), zci cy 16 (u 6), zci cy 16 (u 7), zci cy 16 (u 8), zci cy 16 (u 9), zci cy 16 (u 10), zci cy 16 (u 11), zci cy 16 (u 12), zci cy 16 (u 13), zci cy 16 (u 14), zci cy 16 (u 15), zci cy 16 (u 16), zci cy 16 (u 17), zci cy 16 (u 18), zci cy 16 (u 19), zci cy 16 (u 20), zci cy 16 (u 21), zcq cy 7 6 (u 22) (fun j => some (zad (zLs q0 u) (zgt 23 j))), zcq cy 9 5 (u 23) (va_up (va_up (va_up (va_up (va_up (fun _ => none) 0 (some (u 104))) 1 (some (u 109))) 2 (some (u 114))) 3 (some (u 119))) 4 (some (u 124))), zco 0 (u 24) [.ref (u 25), .ref (u 26), .ref (u 27), .ref (u 28)], zci cy 16 (u 25), zci cy 16 (u 26), zci cy 16 (u 27), zci cy 16 (u 28), zco 0 (u 29) [.ref (u 30), .ref (u 31), .ref (u 32), .ref (u 33)], zci cy 16 (u 30), zci cy 16 (u 31), zci cy 16 (u 32), zci cy 16 (u 33), zco 2 (u 34) [.ref (u 35), .int (-1), .int 0], zco 4 (u 35) [.ref (u 36), .ref (u 37), .int 0, .int 0], zci cy 12 (u 36), zci cy 9 (u 37), zco 2 (u 38) [.ref (u 39), .int (-1), .int 0], zco 4 (u 39) [.ref (u 40), .ref (u 41), .int 0, .int 0], zci cy 12 (u 40), zci cy 9 (u 41), zco 2 (u 42) [.ref (u 43), .int (-1), .int 0], zco 4 (u 43) [.ref (u 44), .ref (u 45), .int 0, .int 0], zci cy 12 (u 44), zci cy 9 (u 45), zco 2 (u 46) [.ref (u 47), .int (-1), .int 0], zco 4 (u 47) [.ref (u 48), .ref (u 49), .int 0, .int 0], zci cy 12 (u 48), zci cy 9 (u 49), zco 2 (u 50) [.ref (u 51), .int (-1), .int 0], zco 4 (u 51) [.ref (u 52), .ref (u 53), .int 0, .int 0], zci cy 12 (u 52), zci cy 9 (u 53), zco 2 (u 54) [.ref (u 55), .int (-1), .int 0], zco 4 (u 55) [.ref (u 56), .ref (u 57), .int 0, .int 0], zci cy 12 (u 56), zci cy 9 (u 57), zco 2 (u 58) [.ref (u 59), .int (-1), .int 0], zco 4 (u 59) [.ref (u 60), .ref (u 61), .int 0, .int 0], zci cy 12 (u 60), zci cy 9 (u 61), zco 2 (u 62) [.ref (u 63), .int (-1), .int 0], zco 4 (u 63) [.ref (u 64), .ref (u 65), .int 0, .int 0], zci cy 12 (u 64), zci cy 9 (u 65), zco 2 (u 66) [.ref (u 67), .int (-1), .int 0], zco 4 (u 67) [.ref (u 68), .ref (u 69), .int 0, .int 0], zci cy 12 (u 68), zci cy 9 (u 69), zco 2 (u 70) [.ref (u 71), .int (-1), .int 0], zco 4 (u 71) [.ref (u 72), .ref (u 73), .int 0, .int 0], zci cy 12 (u 72), zci cy 9 (u 73), zco 2 (u 74) [.ref (u 75), .int (-1), .int 0], zco 4 (u 75) [.ref (u 76), .ref (u 77), .int 0, .int 0], zci cy 12 (u 76), zci cy 9 (u 77), zco 2 (u 78) [.ref (u 79), .int (-1), .int 0], zco 4 (u 79) [.ref (u 80), .ref (u 81), .int 0, .int 0], zci cy 12 (u 80), zci cy 9 (u 81), zco 2 (u 82) [.ref (u 83), .int (-1), .int 0], zco 4 (u 83) [.ref (u 84), .ref (u 85), .int 0, .int 0], zci cy 12 (u 84), zci cy 9 (u 85), zco 2 (u 86) [.ref (u 87), .int (-1), .int 0], zco 4 (u 87) [.ref (u 88), .ref (u 89), .int 0, .int 0], zci cy 12 (u 88), zci cy 9 (u 89), zco 2 (u 90) [.ref (u 91), .int (-1), .int 0], zco 4 (u 91) [.ref (u 92), .ref (u 93), .int 0, .int 0], zci cy 12 (u 92), zci cy 9 (u 93), zco 2 (u 94) [.ref (u 95), .int (-1), .int 0], zco 4 (u 95) [.ref (u 96), .ref (u 97), .int 0, .int 0], zci cy 12 (u 96), zci cy 9 (u 97), zco 1 (u 98) [.int 0, .int 0, .int 0, .int 0, .int 0], zco 1 (u 99) [.int 0, .int 0, .int 0, .int 0, .int 0], zco 1 (u 100) [.int 0, .int 0, .int 0, .int 0, .int 0], zco 1 (u 101) [.int 0, .int 0, .int 0, .int 0, .int 0], zco 1 (u 102) [.int 0, .int 0, .int 0, .int 0, .int 0], zco 1 (u 103) [.int 0, .int 0, .int 0, .int 0, .int 0], zco 3 (u 104) [.ref (u 105), .ref (u 106), .ref (u 107), .ref (u 108), .int 1, .int 0, .int 0, .int 0], zcf cy 10 (u 105) (upd (fun _ => 0) 0 (-1)), zci cy 10 (u 106), zcf cy 10 (u 107) (upd (fun _ => 0) 0 (-1)), zci cy 10 (u 108), zco 3 (u 109) [.ref (u 110), .ref (u 111), .ref (u 112), .ref (u 113), .int 1, .int 0, .int 0, .int 0], zcf cy 10 (u 110) (upd (fun _ => 0) 0 (-1)), zci cy 10 (u 111), zcf cy 10 (u 112) (upd (fun _ => 0) 0 (-1)), zci cy 10 (u 113), zco 3 (u 114) [.ref (u 115), .ref (u 116), .ref (u 117), .ref (u 118), .int 1, .int 0, .int 0, .int 0], zcf cy 10 (u 115) (upd (fun _ => 0) 0 (-1)), zci cy 10 (u 116), zcf cy 10 (u 117) (upd (fun _ => 0) 0 (-1)), zci cy 10 (u 118), zco 3 (u 119) [.ref (u 120), .ref (u 121), .ref (u 122), .ref (u 123), .int 1, .int 0, .int 0, .int 0], zcf cy 10 (u 120) (upd (fun _ => 0) 0 (-1)), zci cy 10 (u 121), zcf cy 10 (u 122) (upd (fun _ => 0) 0 (-1)), zci cy 10 (u 123), zco 3 (u 124) [.ref (u 125), .ref (u 126), .ref (u 127), .ref (u 128), .int 1, .int 0, .int 0, .int 0], zcf cy 10 (u 125) (upd (fun _ => 0) 0 (-1)), zci cy 10 (u 126), zcf cy 10 (u 127) (upd (fun _ => 0) 0 (-1)), zci cy 10 (u 128)]) rfl (fun j hj => ?_) rfl ?_
    · match j, hj with
      | 0, _ => rfl
      | 1, _ => rfl
      | 2, _ => rfl
      | 3, _ => rfl
      | 4, _ => rfl
      | 5, _ => rfl
      | j + 6, h => exact absurd h (by omega)
    refine zx_q (k := 24) (kk := 9) (n := 5) (g := fun j => some (zad (zLs q0 u) (zgt 24 j))) (w1 := [zco 5 q0 [.ref (u 0), .ref (u 3), .ref (u 4), .ref (u 21), .ref (u 22), .ref (u 23), .ref (u 24), .ref (u 29), .int 0, .int 0, .int 0, .int 0, .int 60], zco 4 (u 0) [.ref (u 1), .ref (u 2), .int 0, .int 0], zci cy 12 (u 1), zci cy 9 (u 2), zcq cy 8 16 (u 3) (fun j => some (zad (zLs q0 u) (zgt 4 j))), zcq cy 10 16 (u 4) (fun j => some (zad (zLs q0 u) (zgt 5 j))), zci cy 16 (u 5), zci cy 16 (u 6), zci cy 16 (u 7), zci cy 16 (u 8), zci cy 16 (u 9), zci cy 16 (u 10), zci cy 16 (u 11), zci cy 16 (u 12), zci cy 16 (u 13), zci cy 16 (u 14), zci cy 16 (u 15), zci cy 16 (u 16), zci cy 16 (u 17), zci cy 16 (u 18), zci cy 16 (u 19), zci cy 16 (u 20), zci cy 16 (u 21), zcq cy 7 6 (u 22) (fun j => some (zad (zLs q0 u) (zgt 23 j))), zcq cy 9 5 (u 23) (fun j => some (zad (zLs q0 u) (zgt 24 j))), zco 0 (u 24) [.ref (u 25), .ref (u 26), .ref (u 27), .ref (u 28)], zci cy 16 (u 25), zci cy 16 (u 26), zci cy 16 (u 27), zci cy 16 (u 28), zco 0 (u 29) [.ref (u 30), .ref (u 31), .ref (u 32), .ref (u 33)], zci cy 16 (u 30), zci cy 16 (u 31), zci cy 16 (u 32), zci cy 16 (u 33), zco 2 (u 34) [.ref (u 35), .int (-1), .int 0], zco 4 (u 35) [.ref (u 36), .ref (u 37), .int 0, .int 0], zci cy 12 (u 36), zci cy 9 (u 37), zco 2 (u 38) [.ref (u 39), .int (-1), .int 0], zco 4 (u 39) [.ref (u 40), .ref (u 41), .int 0, .int 0], zci cy 12 (u 40), zci cy 9 (u 41), zco 2 (u 42) [.ref (u 43), .int (-1), .int 0], zco 4 (u 43) [.ref (u 44), .ref (u 45), .int 0, .int 0], zci cy 12 (u 44), zci cy 9 (u 45), zco 2 (u 46) [.ref (u 47), .int (-1), .int 0], zco 4 (u 47) [.ref (u 48), .ref (u 49), .int 0, .int 0], zci cy 12 (u 48), zci cy 9 (u 49), zco 2 (u 50) [.ref (u 51), .int (-1), .int 0], zco 4 (u 51) [.ref (u 52), .ref (u 53), .int 0, .int 0], zci cy 12 (u 52), zci cy 9 (u 53), zco 2 (u 54) [.ref (u 55), .int (-1), .int 0], zco 4 (u 55) [.ref (u 56), .ref (u 57), .int 0, .int 0], zci cy 12 (u 56), zci cy 9 (u 57), zco 2 (u 58) [.ref (u 59), .int (-1), .int 0], zco 4 (u 59) [.ref (u 60), .ref (u 61), .int 0, .int 0], zci cy 12 (u 60), zci cy 9 (u 61), zco 2 (u 62) [.ref (u 63), .int (-1), .int 0], zco 4 (u 63) [.ref (u 64), .ref (u 65), .int 0, .int 0], zci cy 12 (u 64), zci cy 9 (u 65), zco 2 (u 66) [.ref (u 67), .int (-1), .int 0], zco 4 (u 67) [.ref (u 68), .ref (u 69), .int 0, .int 0], zci cy 12 (u 68), zci cy 9 (u 69), zco 2 (u 70) [.ref (u 71), .int (-1), .int 0], zco 4 (u 71) [.ref (u 72), .ref (u 73), .int 0, .int 0], zci cy 12 (u 72), zci cy 9 (u 73), zco 2 (u 74) [.ref (u 75), .int (-1), .int 0], zco 4 (u 75) [.ref (u 76), .ref (u 77), .int 0, .int 0], zci cy 12 (u 76), zci cy 9 (u 77), zco 2 (u 78) [.ref (u 79), .int (-1), .int 0], zco 4 (u 79) [.ref (u 80), .ref (u 81), .int 0, .int 0], zci cy 12 (u 80), zci cy 9 (u 81), zco 2 (u 82) [.ref (u 83), .int (-1), .int 0], zco 4 (u 83) [.ref (u 84), .ref (u 85), .int 0, .int 0], zci cy 12 (u 84), zci cy 9 (u 85), zco 2 (u 86) [.ref (u 87), .int (-1), .int 0], zco 4 (u 87) [.ref (u 88), .ref (u 89), .int 0, .int 0], zci cy 12 (u 88), zci cy 9 (u 89), zco 2 (u 90) [.ref (u 91), .int (-1), .int 0], zco 4 (u 91) [.ref (u 92), .ref (u 93), .int 0, .int 0], zci cy 12 (u 92), zci cy 9 (u 93), zco 2 (u 94) [.ref (u 95), .int (-1), .int 0], zco 4 (u 95) [.ref (u 96), .ref (u 97), .int 0, .int 0], zci cy 12 (u 96), zci cy 9 (u 97), zco 1 (u 98) [.int 0, .int 0, .int 0, .int 0, .int 0], zco 1 (u 99) [.int 0, .int 0, .int 0, .int 0, .int 0], zco 1 (u 100) [.int 0, .int 0, .int 0, .int 0, .int 0], zco 1 (u 101) [.int 0, .int 0, .int 0, .int 0, .int 0], zco 1 (u 102) [.int 0, .int 0, .int 0, .int 0, .int 0], zco 1 (u 103) [.int 0, .int 0, .int 0, .int 0, .int 0], zco 3 (u 104) [.ref (u 105), .ref (u 106), .ref (u 107), .ref (u 108), .int 1, .int 0, .int 0, .int 0], zcf cy 10 (u 105) (upd (fun _ => 0) 0 (-1)), zci cy 10 (u 106), zcf cy 10 (u 107) (upd (fun _ => 0) 0 (-1)), zci cy 10 (u 108), zco 3 (u 109) [.ref (u 110), .ref (u 111), .ref (u 112), .ref (u 113), .int 1, .int 0, .int 0, .int 0], zcf cy 10 (u 110) (upd (fun _ => 0) 0 (-1)), zci cy 10 (u 111), zcf cy 10 (u 112) (upd (fun _ => 0) 0 (-1)), zci cy 10 (u 113), zco 3 (u 114) [.ref (u 115), .ref (u 116), .ref (u 117), .ref (u 118), .int 1, .int 0, .int 0, .int 0], zcf cy 10 (u 115) (upd (fun _ => 0) 0 (-1)), zci cy 10 (u 116), zcf cy 10 (u 117) (upd (fun _ => 0) 0 (-1)), zci cy 10 (u 118), zco 3 (u 119) [.ref (u 120), .ref (u 121), .ref (u 122), .ref (u 123), .int 1, .int 0, .int 0, .int 0], zcf cy 10 (u 120) (upd (fun _ => 0) 0 (-1)), zci cy 10 (u 121), zcf cy 10 (u 122) (upd (fun _ => 0) 0 (-1)), zci cy 10 (u 123), zco 3 (u 124) [.ref (u 125), .ref (u 126), .ref (u 127), .ref (u 128), .int 1, .int 0, .int 0, .int 0], zcf cy 10 (u 125) (upd (fun _ => 0) 0 (-1)), zci cy 10 (u 126), zcf cy 10 (u 127) (upd (fun _ => 0) 0 (-1)), zci cy 10 (u 128)]) rfl (fun j hj => ?_) rfl ?_
    · match j, hj with
      | 0, _ => rfl
      | 1, _ => rfl
      | 2, _ => rfl
      | 3, _ => rfl
      | 4, _ => rfl
      | j + 5, h => exact absurd h (by omega)
    refine zx_astore_n (lv' := [(1, .ref q0), (0, .ref b)]) C rfl (by decide) rfl dL_law_7 ?_
    refine zx_to_zw (L := zLs q0 u) rfl (z_cells cy q0 u) (fun _ h => h) (fun hN hge => ?_)
    have hZ : ZL (zLs q0 u) (zKK (zLs q0 u)) (zNN (zLs q0 u)) (zFF (zLs q0 u)) (zGG (zLs q0 u)) := zZL rfl hN
    obtain ⟨I', A', hp⟩ := hpure (zLs q0 u) rfl hN Ln xs hL
    have C2 : ZC p s m #[Value.ref b] meth c cL_law RL 17 D cy (zLs q0 u) (zKK (zLs q0 u)) (zNN (zLs q0 u)) (zFF (zLs q0 u)) (zGG (zLs q0 u)) := ⟨hx, hb, hml, hW, hown, hlk, hK, hZ, hnb⟩
    have k1 : zKK (zLs q0 u) q0 = 5 := by
      have h1 : zix (zLs q0 u) q0 = 0 := zix_get hN (show (zLs q0 u)[0]? = some q0 from rfl)
      unfold zKK
      rw [h1]
      rfl
    have hXL : b ∉ zLs q0 u := fun h => absurd (hge b h) (Nat.not_le.mpr hbs)
    refine w_L_law l D cy hZ C2 (Nat.le_trans (Nat.le_of_ble_eq_true rfl) hRf) (Nat.le_trans (Nat.le_of_ble_eq_true rfl) hRl) ⟨Nat.le_trans (Nat.le_of_ble_eq_true rfl) hRc, Nat.le_trans (Nat.le_of_ble_eq_true rfl) hRs⟩ Ln xs b q0 hX hbs hXL k1 (zI0 (zLs q0 u)) (zA0 (zLs q0 u)) I' A' hp (fun cs ss lv h1 h2 => ?_)
    intro H locs ls hP hS hl
    refine va_forget (fun q hq => ?_) (W.widen (Nat.le_trans h1 (Nat.le_trans (Nat.le_of_ble_eq_true rfl) hRc)) (Nat.le_trans h2 (Nat.le_trans (Nat.le_of_ble_eq_true rfl) hRs)) (hend H ls))
    rcases hS.2.2 q hq with h | h
    · exact hge _ h
    · exact h
  rw [lg_entry_eq]
  exact go s.heap [] _ (fun k q h => by simp at h) ⟨fun i j p q h => by simp at h, fun k q h => by simp at h⟩ ⟨Nat.le_refl _, fun _ _ _ => rfl, fun l h => by cases h⟩ (lv_entry [.ref b] (Nat.le_of_ble_eq_true rfl))
