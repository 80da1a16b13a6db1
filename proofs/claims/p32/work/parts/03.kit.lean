/-! My own words for the whole system: after the constructor nothing is allocated and no reference changes, so a state is two maps: I a k, the int in slot k of the object at a; A a j, the int at place j of the array at a. K: the kind of each address; N: an array's length; F a k, G a j: the references in objects, in arrays of references. -/
abbrev zH : Type := Nat → Nat → Int32
def up2 (I : zH) (a k : Nat) (v : Int32) : zH := fun b j => if b = a then (if j = k then v else I b j) else I b j
def zF (c : Nat) (F : Nat → Nat → Nat) (I : zH) (a : Nat) : List Value := match c with
  | 0 => [.ref (F a 0), .ref (F a 1), .ref (F a 2), .ref (F a 3)]
  | 1 => [.int (I a 0), .int (I a 1), .int (I a 2), .int (I a 3), .int (I a 4)]
  | 2 => [.ref (F a 0), .int (I a 1), .int (I a 2)]
  | 3 => [.ref (F a 0), .ref (F a 1), .ref (F a 2), .ref (F a 3), .int (I a 4), .int (I a 5), .int (I a 6), .int (I a 7)]
  | 4 => [.ref (F a 0), .ref (F a 1), .int (I a 2), .int (I a 3)]
  | _ => [.ref (F a 0), .ref (F a 1), .ref (F a 2), .ref (F a 3), .ref (F a 4), .ref (F a 5), .ref (F a 6), .ref (F a 7), .int (I a 8), .int (I a 9), .int (I a 10), .int (I a 11), .int (I a 12)]
def zM (cy : Nat → ClassId) (K N : Nat → Nat) (F G : Nat → Nat → Nat) (I A : zH) : Nat → va_E := fun a =>
  if K a < 6 then .inr (K a, zF (K a) F I a) else if K a = 6 then .inl (cy 6, N a, .inl (A a)) else .inl (cy (K a), N a, .inr (.inr (.inr (.inr (fun j => some (G a j))))))
def zTys (cy : Nat → ClassId) : List (ClassId × FieldType) := [(cy 6, .int), (cy 7, .object "SnippetBank$Licence"), (cy 8, .object "SnippetBank$Piece"), (cy 9, .object "SnippetBank$Project"), (cy 10, .array .int)]
def zNd (L : List Nat) : Prop := ∀ (i j x : Nat), L[i]? = some x → L[j]? = some x → i = j
/-- what never changes: which address is of which kind, and what the references hold -/
def ZL (L : List Nat) (K N : Nat → Nat) (F G : Nat → Nat → Nat) : Prop :=
  (∀ a, K a < 11 → a ∈ L) ∧ zNd L ∧
  (∀ a, K a = 0 → ∀ k, k < 4 → K (F a k) = 6 ∧ N (F a k) = 16) ∧
  (∀ a, K a = 2 → K (F a 0) = 4) ∧
  (∀ a, K a = 3 → ∀ k, k < 4 → K (F a k) = 6 ∧ N (F a k) = 10) ∧
  (∀ a, K a = 4 → (K (F a 0) = 6 ∧ N (F a 0) = 12) ∧ (K (F a 1) = 6 ∧ N (F a 1) = 9)) ∧
  (∀ a, K a = 5 → K (F a 0) = 4 ∧ (K (F a 1) = 8 ∧ N (F a 1) = 16) ∧ (K (F a 2) = 10 ∧ N (F a 2) = 16) ∧ (K (F a 3) = 6 ∧ N (F a 3) = 16) ∧ (K (F a 4) = 7 ∧ N (F a 4) = 6) ∧ (K (F a 5) = 9 ∧ N (F a 5) = 5) ∧ K (F a 6) = 0 ∧ K (F a 7) = 0) ∧
  (∀ a, K a = 7 → ∀ i, i < N a → K (G a i) = 1) ∧ (∀ a, K a = 8 → ∀ i, i < N a → K (G a i) = 2) ∧ (∀ a, K a = 9 → ∀ i, i < N a → K (G a i) = 3) ∧
  (∀ a, K a = 10 → ∀ i, i < N a → K (G a i) = 6 ∧ N (G a i) = 16)
section ZLF
variable {L : List Nat} {K N : Nat → Nat} {F G : Nat → Nat → Nat} {a i : Nat}
theorem zl_in (h : ZL L K N F G) {c : Nat} (hk : K a = c) (hc : c < 11) : a ∈ L := h.1 a (by omega)
theorem zt0 (h : ZL L K N F G) (hk : K a = 0) (k : Nat) (h4 : k < 4) : K (F a k) = 6 ∧ N (F a k) = 16 := h.2.2.1 a hk k h4
theorem zt2 (h : ZL L K N F G) (hk : K a = 2) : K (F a 0) = 4 := h.2.2.2.1 a hk
theorem zt3 (h : ZL L K N F G) (hk : K a = 3) (k : Nat) (h4 : k < 4) : K (F a k) = 6 ∧ N (F a k) = 10 := h.2.2.2.2.1 a hk k h4
theorem zt40 (h : ZL L K N F G) (hk : K a = 4) : K (F a 0) = 6 ∧ N (F a 0) = 12 := (h.2.2.2.2.2.1 a hk).1
theorem zt41 (h : ZL L K N F G) (hk : K a = 4) : K (F a 1) = 6 ∧ N (F a 1) = 9 := (h.2.2.2.2.2.1 a hk).2
theorem zt50 (h : ZL L K N F G) (hk : K a = 5) : K (F a 0) = 4 := (h.2.2.2.2.2.2.1 a hk).1
theorem zt51 (h : ZL L K N F G) (hk : K a = 5) : K (F a 1) = 8 ∧ N (F a 1) = 16 := (h.2.2.2.2.2.2.1 a hk).2.1
theorem zt52 (h : ZL L K N F G) (hk : K a = 5) : K (F a 2) = 10 ∧ N (F a 2) = 16 := (h.2.2.2.2.2.2.1 a hk).2.2.1
theorem zt53 (h : ZL L K N F G) (hk : K a = 5) : K (F a 3) = 6 ∧ N (F a 3) = 16 := (h.2.2.2.2.2.2.1 a hk).2.2.2.1
theorem zt54 (h : ZL L K N F G) (hk : K a = 5) : K (F a 4) = 7 ∧ N (F a 4) = 6 := (h.2.2.2.2.2.2.1 a hk).2.2.2.2.1
theorem zt55 (h : ZL L K N F G) (hk : K a = 5) : K (F a 5) = 9 ∧ N (F a 5) = 5 := (h.2.2.2.2.2.2.1 a hk).2.2.2.2.2.1
theorem zt56 (h : ZL L K N F G) (hk : K a = 5) : K (F a 6) = 0 := (h.2.2.2.2.2.2.1 a hk).2.2.2.2.2.2.1
theorem zt57 (h : ZL L K N F G) (hk : K a = 5) : K (F a 7) = 0 := (h.2.2.2.2.2.2.1 a hk).2.2.2.2.2.2.2
theorem zt7 (h : ZL L K N F G) (hk : K a = 7) (hi : i < N a) : K (G a i) = 1 := h.2.2.2.2.2.2.2.1 a hk i hi
theorem zt8 (h : ZL L K N F G) (hk : K a = 8) (hi : i < N a) : K (G a i) = 2 := h.2.2.2.2.2.2.2.2.1 a hk i hi
theorem zt9 (h : ZL L K N F G) (hk : K a = 9) (hi : i < N a) : K (G a i) = 3 := h.2.2.2.2.2.2.2.2.2.1 a hk i hi
theorem zt10 (h : ZL L K N F G) (hk : K a = 10) (hi : i < N a) : K (G a i) = 6 ∧ N (G a i) = 16 := h.2.2.2.2.2.2.2.2.2.2 a hk i hi
end ZLF
theorem z_ix {n m : Nat} {i : Int32} (hn : m = n) (h : ¬ (i < 0 ∨ n ≤ i.toNatClampNeg)) : i.toNatClampNeg < m := by
  have := fun q => h (Or.inr q)
  omega
def zA (L : List Nat) (sz : Nat) : Nat → Prop := fun q => q ∈ L ∨ sz ≤ q
theorem z_D {L : List Nat} (hN : zNd L) (sz : Nat) (f : Nat → va_E) : va_D (zA L sz) (va_pl L f) := by
  refine ⟨fun i j p q hi hj h => ?_, fun k q hk => ?_⟩
  · unfold va_pl at hi hj
    rw [List.getElem?_map] at hi hj
    cases h1 : L[i]? with
    | none => rw [h1] at hi; cases hi
    | some x =>
      cases h2 : L[j]? with
      | none => rw [h2] at hj; cases hj
      | some y =>
        rw [h1] at hi
        rw [h2] at hj
        cases hi
        cases hj
        have hxy : x = y := h
        exact hN i j x h1 (by rw [h2, hxy])
  · unfold va_pl at hk
    obtain ⟨x, h1, h2⟩ := List.mem_map.mp (List.mem_of_getElem? hk)
    subst h2
    exact Or.inl h1
theorem z_getk {L : List Nat} {f : Nat → va_E} {a : Nat} (h : a ∈ L) : ∃ k : Nat, (va_pl L f)[k]? = some (a, f a) := by
  obtain ⟨k, hk⟩ := va_pl_get (X := []) (f := f) h
  exact ⟨k, hk⟩
theorem z_set {A : Nat → Prop} {L : List Nat} {f g : Nat → va_E} {a k : Nat} {e : va_E} (hD : va_D A (va_pl L f)) (h : a ∈ L) (hk : (va_pl L f)[k]? = some (a, f a)) (hg : ∀ b, va_up f a e b = g b) : (va_pl L f).set k (a, e) = va_pl L g := by
  have h1 := va_pl_set (X := []) hD h hk (e := e)
  rw [List.nil_append, List.nil_append] at h1
  rw [h1]
  exact va_pl_congr hg
/-- the words of the tables that every method may use: the good ones -/
def zW : List Cond := lw_tbl.filter goodWord
theorem zIn {w : Cond} (i : Nat) (h : tables_1[i]? = some w) (hg : goodWord w = true) : w ∈ zW := List.mem_filter.mpr ⟨List.mem_append_right _ (List.mem_of_getElem? h), hg⟩
theorem zInS {w : Cond} (i : Nat) (h : (k2_sels lw_privs)[i]? = some w) (hg : goodWord w = true) : w ∈ zW := List.mem_filter.mpr ⟨List.mem_append_left _ (List.mem_of_getElem? h), hg⟩
theorem zW_good {w : Cond} (h : w ∈ zW) : (w.onTables && w.keeps) = true ∨ ∃ ty, w = .arrayClass ty := good_of_word (List.mem_filter.mp h).2
theorem zGood {c0 : Cond} (h : c0 ∈ zW) : GoodIn zW (c0 :: zW) := fun w hw => by
  rcases List.mem_cons.mp hw with rfl | hw
  · exact ⟨h, zW_good h⟩
  · exact ⟨hw, zW_good hw⟩
theorem zGV {own C : String} {idx : Nat} {y : MethodName} {c0 : Cond} (h1 : Cond.methodLink own idx y ∈ zW) (h2 : Cond.instanceMethod y ∈ zW) (h3 : Cond.selects C y y ∈ zW) (h4 : Cond.initialized C ∈ zW) (h5 : c0 ∈ zW) : GoodIn zW (wsV own idx C y (c0 :: zW)) := fun w hw => by
  rcases List.mem_append.mp hw with hw | hw
  · simp only [List.mem_cons, List.not_mem_nil, or_false] at hw
    rcases hw with rfl | rfl | rfl | rfl
    · exact ⟨h1, zW_good h1⟩
    · exact ⟨h2, zW_good h2⟩
    · exact ⟨h3, zW_good h3⟩
    · exact ⟨h4, zW_good h4⟩
  · exact zGood h5 w hw
theorem zGS {own : String} {idx : Nat} {y : MethodName} {c0 : Cond} (h1 : Cond.methodLink own idx y ∈ zW) (h2 : Cond.static y ∈ zW) (h4 : Cond.initialized y.cls ∈ zW) (h5 : c0 ∈ zW) : GoodIn zW (va_wsS own idx y (c0 :: zW)) := fun w hw => by
  rcases List.mem_append.mp hw with hw | hw
  · simp only [List.mem_cons, List.not_mem_nil, or_false] at hw
    rcases hw with rfl | rfl | rfl
    · exact ⟨h1, zW_good h1⟩
    · exact ⟨h2, zW_good h2⟩
    · exact ⟨h4, zW_good h4⟩
  · exact zGood h5 w hw
/-- a nest mate's private method, by the two links that are there -/
def zNb (U : State) : Prop := va_Nw (.methodLinkNest RX0 30 yX5_hasBit RX5) U ∧ va_Nw (.methodLinkNest RX3 37 yX5_hasBit RX5) U
theorem zNb.warm {s U : State} (hW : s.WarmedH U.vm) (h : zNb s) : zNb U := ⟨va_Nw.warmM hW h.1, va_Nw.warmM hW h.2⟩
def zPre (D : va_G) (cy : Nat → ClassId) (L : List Nat) (K N : Nat → Nat) (F G : Nat → Nat → Nat) (I A : zH) (sz : Nat) (U : State) : Prop := U.heap.size = sz ∧ va_P D vwCl (va_pl L (zM cy K N F G I A)) U.heap ∧ va_K D vwCl (zTys cy) U ∧ zNb U
def zPost (D : va_G) (cy : Nat → ClassId) (L : List Nat) (K N : Nat → Nat) (F G : Nat → Nat → Nat) (I A : zH) (t : State) : Prop := va_P D vwCl (va_pl L (zM cy K N F G I A)) t.heap
theorem zPre.blind {D : va_G} {cy : Nat → ClassId} {L : List Nat} {K N : Nat → Nat} {F G : Nat → Nat → Nat} {I A : zH} {sz : Nat} {avs : List Value} : FrameBlind (va_Pc avs (zPre D cy L K N F G I A sz)) := fun a U g mk q => by
  obtain ⟨q0, q1, qP, qK, qN⟩ := q
  exact ⟨q0, q1, qP, va_K.moved (u := U) (U := U.calling g mk a) (Vm.Alike.refl U.vm) qK, qN⟩
/-! contracts: by the answer; the post is one state -/
def ZMi (l : Launch) (y : MethodName) (b : ByteArray) (n : Nat) (ret : Option FieldType) (rm : Room) (D : va_G) (cy : Nat → ClassId) (L : List Nat) (K N : Nat → Nat) (F G : Nat → Nat → Nat) (avs : List Value) (I A : zH) (r : Int32) (I' A' : zH) : Prop := ∀ sz : Nat, Met l y (.code y b n ret :: zW) rm (va_Pc avs (zPre D cy L K N F G I A sz)) (va_Qi (fun x (_ : Unit) => x = r) (fun _ t => zPost D cy L K N F G I' A' t) (zA L sz)) 0 0 (zA L sz)
def ZMl (l : Launch) (y : MethodName) (b : ByteArray) (n : Nat) (ret : Option FieldType) (rm : Room) (D : va_G) (cy : Nat → ClassId) (L : List Nat) (K N : Nat → Nat) (F G : Nat → Nat → Nat) (avs : List Value) (I A : zH) (r : Int64) (I' A' : zH) : Prop := ∀ sz : Nat, Met l y (.code y b n ret :: zW) rm (va_Pc avs (zPre D cy L K N F G I A sz)) (va_Ql (fun x (_ : Unit) => x = r) (fun _ t => zPost D cy L K N F G I' A' t) (zA L sz)) 0 0 (zA L sz)
def ZMv (l : Launch) (y : MethodName) (b : ByteArray) (n : Nat) (ret : Option FieldType) (rm : Room) (D : va_G) (cy : Nat → ClassId) (L : List Nat) (K N : Nat → Nat) (F G : Nat → Nat → Nat) (avs : List Value) (I A : zH) (I' A' : zH) : Prop := ∀ sz : Nat, Met l y (.code y b n ret :: zW) rm (va_Pc avs (zPre D cy L K N F G I A sz)) (va_Qv (fun _ : Unit => True) (fun _ t => zPost D cy L K N F G I' A' t) (zA L sz)) 0 0 (zA L sz)
/-! pure combinators, and what a good end says -/
def zck {β : Type} (c : Prop) [Decidable c] (x : Option β) : Option β := if c then x else none
theorem zck_e {β : Type} {c : Prop} [Decidable c] {x : Option β} {r : β} (h : zck c x = some r) : c ∧ x = some r := by
  unfold zck at h
  split at h
  · rename_i hc; exact ⟨hc, h⟩
  · cases h
theorem zif_t {β : Type} {c : Prop} [Decidable c] {x y r : β} (hc : c) (h : (if c then x else y) = r) : x = r := by rw [if_pos hc] at h; exact h
theorem zif_f {β : Type} {c : Prop} [Decidable c] {x y r : β} (hc : ¬ c) (h : (if c then x else y) = r) : y = r := by rw [if_neg hc] at h; exact h
theorem zno {β : Type} {r : β} {P : Prop} (h : (none : Option β) = some r) : P := by cases h
theorem zso {β : Type} {x r : β} (h : some x = some r) : x = r := Option.some.inj h
def zb {α β : Type} (o : Option α) (k : α → Option β) : Option β := match o with
  | none => none
  | some x => k x
theorem zb_e {α β : Type} {o : Option α} {k : α → Option β} {r : β} (h : zb o k = some r) : ∃ x, o = some x ∧ k x = some r := by
  cases o with
  | none => cases h
  | some x => exact ⟨x, rfl, h⟩
def zs {α β ρ : Type} (w : ρ → β) (o : Option (α ⊕ ρ)) (k : α → Option β) : Option β := match o with
  | none => none
  | some (.inl x) => k x
  | some (.inr q) => some (w q)
theorem zs_e {α β ρ : Type} {w : ρ → β} {o : Option (α ⊕ ρ)} {k : α → Option β} {r : β} (h : zs w o k = some r) : (∃ x, o = some (.inl x) ∧ k x = some r) ∨ ∃ q, o = some (.inr q) ∧ w q = r := by
  cases o with
  | none => cases h
  | some x =>
    cases x with
    | inl x => exact Or.inl ⟨x, rfl, h⟩
    | inr q => exact Or.inr ⟨q, rfl, Option.some.inj h⟩
/-- a loop: its body goes on (inl) or leaves (inr) -/
def zIt {σ ρ : Type} (B : σ → Option (σ ⊕ ρ)) : Nat → σ → Option ρ
  | 0, _ => none
  | n + 1, x => match B x with
    | none => none
    | some (.inl y) => zIt B n y
    | some (.inr r) => some r
theorem zIt_w {σ ρ : Type} {B : σ → Option (σ ⊕ ρ)} {P : σ → Prop} {X : ρ → Prop} (hb : ∀ x, (∀ y, B x = some (.inl y) → P y) → (∀ r, B x = some (.inr r) → X r) → B x ≠ none → P x) : ∀ (n : Nat) (x : σ) (r : ρ), zIt B n x = some r → X r → P x := by
  intro n
  induction n with
  | zero => intro x r h; cases h
  | succ n ih =>
    intro x r h hX
    unfold zIt at h
    refine hb x (fun y hy => ?_) (fun q hq => ?_) (fun hn => ?_)
    · rw [hy] at h; exact ih y r h hX
    · rw [hq] at h; cases h; exact hX
    · rw [hn] at h; cases h
def zb2 {α β γ : Type} (o : Option (α × β)) (k : α → β → Option γ) : Option γ := match o with
  | none => none
  | some x => k x.1 x.2
theorem zb2_e {α β γ : Type} {o : Option (α × β)} {k : α → β → Option γ} {r : γ} (h : zb2 o k = some r) : ∃ x y, o = some (x, y) ∧ k x y = some r := by
  cases o with
  | none => cases h
  | some x => exact ⟨x.1, x.2, rfl, h⟩
def zb3 {α β γ δ : Type} (o : Option (α × β × γ)) (k : α → β → γ → Option δ) : Option δ := match o with
  | none => none
  | some x => k x.1 x.2.1 x.2.2
theorem zb3_e {α β γ δ : Type} {o : Option (α × β × γ)} {k : α → β → γ → Option δ} {r : δ} (h : zb3 o k = some r) : ∃ x y z, o = some (x, y, z) ∧ k x y z = some r := by
  cases o with
  | none => cases h
  | some x => exact ⟨x.1, x.2.1, x.2.2, rfl, h⟩
def zb4 {α β γ δ ε : Type} (o : Option (α × β × γ × δ)) (k : α → β → γ → δ → Option ε) : Option ε := match o with
  | none => none
  | some x => k x.1 x.2.1 x.2.2.1 x.2.2.2
theorem zb4_e {α β γ δ ε : Type} {o : Option (α × β × γ × δ)} {k : α → β → γ → δ → Option ε} {r : ε} (h : zb4 o k = some r) : ∃ x y z u, o = some (x, y, z, u) ∧ k x y z u = some r := by
  cases o with
  | none => cases h
  | some x => exact ⟨x.1, x.2.1, x.2.2.1, x.2.2.2, rfl, h⟩
def zb5 {α β γ δ ε ζ : Type} (o : Option (α × β × γ × δ × ε)) (k : α → β → γ → δ → ε → Option ζ) : Option ζ := match o with
  | none => none
  | some x => k x.1 x.2.1 x.2.2.1 x.2.2.2.1 x.2.2.2.2
theorem zb5_e {α β γ δ ε ζ : Type} {o : Option (α × β × γ × δ × ε)} {k : α → β → γ → δ → ε → Option ζ} {r : ζ} (h : zb5 o k = some r) : ∃ x y z u v, o = some (x, y, z, u, v) ∧ k x y z u v = some r := by
  cases o with
  | none => cases h
  | some x => exact ⟨x.1, x.2.1, x.2.2.1, x.2.2.2.1, x.2.2.2.2, rfl, h⟩
def zlet {α β : Type} (x : α) (k : α → Option β) : Option β := k x
theorem zlet_e {α β : Type} {x : α} {k : α → Option β} {r : β} (h : zlet x k = some r) : ∃ y, y = x ∧ k y = some r := ⟨x, rfl, h⟩
theorem z_nb {v : Int32} (h : v = 0 ∨ v = 1) : narrow .boolean (.int v) = .int v := by rcases h with rfl | rfl <;> rfl
theorem z_fb {v : Int32} (h : v = 0 ∨ v = 1) : fits .boolean (.int v) = true := by rcases h with rfl | rfl <;> rfl
theorem zinX0 : ∀ w ∈ u_ws RX0 TX0 4, w ∈ zW := fun w h => by
  have h1 : (u_ws RX0 TX0 4).all (fun w => decide (w ∈ tables_1) && goodWord w) = true := by decide +kernel
  have h2 := List.all_eq_true.mp h1 w h
  simp only [Bool.and_eq_true, decide_eq_true_eq] at h2
  exact List.mem_filter.mpr ⟨List.mem_append_right _ h2.1, h2.2⟩
theorem zinX1 : ∀ w ∈ u_ws RX1 TX1 5, w ∈ zW := fun w h => by
  have h1 : (u_ws RX1 TX1 5).all (fun w => decide (w ∈ tables_1) && goodWord w) = true := by decide +kernel
  have h2 := List.all_eq_true.mp h1 w h
  simp only [Bool.and_eq_true, decide_eq_true_eq] at h2
  exact List.mem_filter.mpr ⟨List.mem_append_right _ h2.1, h2.2⟩
theorem zinX2 : ∀ w ∈ u_ws RX2 TX2 3, w ∈ zW := fun w h => by
  have h1 : (u_ws RX2 TX2 3).all (fun w => decide (w ∈ tables_1) && goodWord w) = true := by decide +kernel
  have h2 := List.all_eq_true.mp h1 w h
  simp only [Bool.and_eq_true, decide_eq_true_eq] at h2
  exact List.mem_filter.mpr ⟨List.mem_append_right _ h2.1, h2.2⟩
theorem zinX3 : ∀ w ∈ u_ws RX3 TX3 8, w ∈ zW := fun w h => by
  have h1 : (u_ws RX3 TX3 8).all (fun w => decide (w ∈ tables_1) && goodWord w) = true := by decide +kernel
  have h2 := List.all_eq_true.mp h1 w h
  simp only [Bool.and_eq_true, decide_eq_true_eq] at h2
  exact List.mem_filter.mpr ⟨List.mem_append_right _ h2.1, h2.2⟩
theorem zinX4 : ∀ w ∈ u_ws RX4 TX4 4, w ∈ zW := fun w h => by
  have h1 : (u_ws RX4 TX4 4).all (fun w => decide (w ∈ tables_1) && goodWord w) = true := by decide +kernel
  have h2 := List.all_eq_true.mp h1 w h
  simp only [Bool.and_eq_true, decide_eq_true_eq] at h2
  exact List.mem_filter.mpr ⟨List.mem_append_right _ h2.1, h2.2⟩
theorem zinX5 : ∀ w ∈ u_ws RX5 TX5 13, w ∈ zW := fun w h => by
  have h1 : (u_ws RX5 TX5 13).all (fun w => decide (w ∈ tables_1) && goodWord w) = true := by decide +kernel
  have h2 := List.all_eq_true.mp h1 w h
  simp only [Bool.and_eq_true, decide_eq_true_eq] at h2
  exact List.mem_filter.mpr ⟨List.mem_append_right _ h2.1, h2.2⟩
