theorem wd_23 : (Cond.classLink RX5 9 RX4) ∈ zW := zIn 23 (by decide +kernel) (by decide +kernel)
theorem wd_24 : (Cond.instantiable RX4 4) ∈ zW := zIn 24 (by decide +kernel) (by decide +kernel)
theorem wd_26 : (Cond.instanceMethod yX4_init) ∈ zW := zIn 26 (by decide +kernel) (by decide +kernel)
theorem wd_27 : (Cond.code yX4_init cX4_init 1 none) ∈ zW := zIn 27 (by decide +kernel) (by decide +kernel)
theorem wd_45 : (Cond.classLink RX5 16 RX2) ∈ zW := zIn 45 (by decide +kernel) (by decide +kernel)
theorem wd_47 : (Cond.classLink RX5 22 "[[I") ∈ zW := zIn 47 (by decide +kernel) (by decide +kernel)
theorem wd_49 : (Cond.classLink RX5 31 RX1) ∈ zW := zIn 49 (by decide +kernel) (by decide +kernel)
theorem wd_51 : (Cond.classLink RX5 37 RX3) ∈ zW := zIn 51 (by decide +kernel) (by decide +kernel)
theorem wd_53 : (Cond.classLink RX5 43 RX0) ∈ zW := zIn 53 (by decide +kernel) (by decide +kernel)
theorem wd_54 : (Cond.instantiable RX0 4) ∈ zW := zIn 54 (by decide +kernel) (by decide +kernel)
theorem wd_56 : (Cond.instanceMethod yX0_init) ∈ zW := zIn 56 (by decide +kernel) (by decide +kernel)
theorem wd_57 : (Cond.code yX0_init cX0_init 1 none) ∈ zW := zIn 57 (by decide +kernel) (by decide +kernel)
theorem wd_72 : (Cond.instantiable RX2 3) ∈ zW := zIn 72 (by decide +kernel) (by decide +kernel)
theorem wd_4 : (Cond.initialized RX2) ∈ zW := zIn 4 (by decide +kernel) (by decide +kernel)
theorem wd_77 : (Cond.classLink RX2 9 RX4) ∈ zW := zIn 77 (by decide +kernel) (by decide +kernel)
theorem wd_79 : (Cond.fieldLink RX2 12 "SnippetBank$Piece" "row" "LSnippetBank$Row;") ∈ zW := zIn 79 (by decide +kernel) (by decide +kernel)
theorem wd_81 : (Cond.fieldLink RX2 18 "SnippetBank$Piece" "own" "I") ∈ zW := zIn 81 (by decide +kernel) (by decide +kernel)
theorem wd_83 : (Cond.fieldLink RX2 22 "SnippetBank$Piece" "freed" "I") ∈ zW := zIn 83 (by decide +kernel) (by decide +kernel)
theorem wd_74 : (Cond.instanceMethod yX2_init) ∈ zW := zIn 74 (by decide +kernel) (by decide +kernel)
theorem wd_75 : (Cond.code yX2_init cX2_init 1 none) ∈ zW := zIn 75 (by decide +kernel) (by decide +kernel)
theorem wd_92 : (Cond.instantiable RX1 5) ∈ zW := zIn 92 (by decide +kernel) (by decide +kernel)
theorem wd_102 : (Cond.fieldLink RX1 16 "SnippetBank$Licence" "isStrong" "Z") ∈ zW := zIn 102 (by decide +kernel) (by decide +kernel)
theorem wd_105 : (Cond.fieldLink RX1 20 "SnippetBank$Licence" "patience" "I") ∈ zW := zIn 105 (by decide +kernel) (by decide +kernel)
theorem wd_107 : (Cond.fieldLink RX1 23 "SnippetBank$Licence" "rivals" "I") ∈ zW := zIn 107 (by decide +kernel) (by decide +kernel)
theorem wd_94 : (Cond.instanceMethod yX1_init) ∈ zW := zIn 94 (by decide +kernel) (by decide +kernel)
theorem wd_95 : (Cond.code yX1_init cX1_init 1 none) ∈ zW := zIn 95 (by decide +kernel) (by decide +kernel)
theorem wd_121 : (Cond.instantiable RX3 8) ∈ zW := zIn 121 (by decide +kernel) (by decide +kernel)
theorem wd_139 : (Cond.fieldLink RX3 34 "SnippetBank$Project" "recalls" "I") ∈ zW := zIn 139 (by decide +kernel) (by decide +kernel)
theorem wd_122 : (Cond.methodLink RX5 71 yX3_init) ∈ zW := zIn 122 (by decide +kernel) (by decide +kernel)
theorem wd_123 : (Cond.instanceMethod yX3_init) ∈ zW := zIn 123 (by decide +kernel) (by decide +kernel)
theorem wd_124 : (Cond.code yX3_init cX3_init 1 none) ∈ zW := zIn 124 (by decide +kernel) (by decide +kernel)
theorem zq16 (r : Nat → Nat) : (fun i => if i < 16 then some (r i) else none) = va_up (va_up (va_up (va_up (va_up (va_up (va_up (va_up (va_up (va_up (va_up (va_up (va_up (va_up (va_up (va_up (fun _ => none) 0 (some (r 0))) 1 (some (r 1))) 2 (some (r 2))) 3 (some (r 3))) 4 (some (r 4))) 5 (some (r 5))) 6 (some (r 6))) 7 (some (r 7))) 8 (some (r 8))) 9 (some (r 9))) 10 (some (r 10))) 11 (some (r 11))) 12 (some (r 12))) 13 (some (r 13))) 14 (some (r 14))) 15 (some (r 15)) := by
  funext i
  match i with
  | 0 => rfl
  | 1 => rfl
  | 2 => rfl
  | 3 => rfl
  | 4 => rfl
  | 5 => rfl
  | 6 => rfl
  | 7 => rfl
  | 8 => rfl
  | 9 => rfl
  | 10 => rfl
  | 11 => rfl
  | 12 => rfl
  | 13 => rfl
  | 14 => rfl
  | 15 => rfl
  | n + 16 => simp [va_up]
theorem wobjI : Cond.instanceMethod objectInit ∈ zW := zIn 21 (by decide +kernel) (by decide +kernel)
theorem wobjC : Cond.code objectInit ⟨#[0xb1]⟩ 1 none ∈ zW := zIn 22 (by decide +kernel) (by decide +kernel)
theorem wobj_X0 : Cond.methodLink RX0 3 objectInit ∈ zW := zIn 58 (by decide +kernel) (by decide +kernel)
theorem wobj_X1 : Cond.methodLink RX1 1 objectInit ∈ zW := zIn 96 (by decide +kernel) (by decide +kernel)
theorem wobj_X2 : Cond.methodLink RX2 3 objectInit ∈ zW := zIn 76 (by decide +kernel) (by decide +kernel)
theorem wobj_X3 : Cond.methodLink RX3 3 objectInit ∈ zW := zIn 125 (by decide +kernel) (by decide +kernel)
theorem wobj_X4 : Cond.methodLink RX4 3 objectInit ∈ zW := zIn 28 (by decide +kernel) (by decide +kernel)
theorem wobj_X5 : Cond.methodLink RX5 3 objectInit ∈ zW := zIn 20 (by decide +kernel) (by decide +kernel)
theorem zdfX0 : ∀ j, j < 4 → defaultValue (tyX0 j) = vp_V [.null, .null, .null, .null] j := by
  intro j hj
  match j, hj with
  | 0, _ => rfl
  | 1, _ => rfl
  | 2, _ => rfl
  | 3, _ => rfl
  | j + 4, h => exact absurd h (by omega)
theorem zdfX1 : ∀ j, j < 5 → defaultValue (tyX1 j) = vp_V [.int 0, .int 0, .int 0, .int 0, .int 0] j := by
  intro j hj
  match j, hj with
  | 0, _ => rfl
  | 1, _ => rfl
  | 2, _ => rfl
  | 3, _ => rfl
  | 4, _ => rfl
  | j + 5, h => exact absurd h (by omega)
theorem zdfX2 : ∀ j, j < 3 → defaultValue (tyX2 j) = vp_V [.null, .int 0, .int 0] j := by
  intro j hj
  match j, hj with
  | 0, _ => rfl
  | 1, _ => rfl
  | 2, _ => rfl
  | j + 3, h => exact absurd h (by omega)
theorem zdfX3 : ∀ j, j < 8 → defaultValue (tyX3 j) = vp_V [.null, .null, .null, .null, .int 0, .int 0, .int 0, .int 0] j := by
  intro j hj
  match j, hj with
  | 0, _ => rfl
  | 1, _ => rfl
  | 2, _ => rfl
  | 3, _ => rfl
  | 4, _ => rfl
  | 5, _ => rfl
  | 6, _ => rfl
  | 7, _ => rfl
  | j + 8, h => exact absurd h (by omega)
theorem zdfX4 : ∀ j, j < 4 → defaultValue (tyX4 j) = vp_V [.null, .null, .int 0, .int 0] j := by
  intro j hj
  match j, hj with
  | 0, _ => rfl
  | 1, _ => rfl
  | 2, _ => rfl
  | 3, _ => rfl
  | j + 4, h => exact absurd h (by omega)
theorem zdfX5 : ∀ j, j < 13 → defaultValue (tyX5 j) = vp_V [.null, .null, .null, .null, .null, .null, .null, .null, .int 0, .int 0, .int 0, .int 0, .int 0] j := by
  intro j hj
  match j, hj with
  | 0, _ => rfl
  | 1, _ => rfl
  | 2, _ => rfl
  | 3, _ => rfl
  | 4, _ => rfl
  | 5, _ => rfl
  | 6, _ => rfl
  | 7, _ => rfl
  | 8, _ => rfl
  | 9, _ => rfl
  | 10, _ => rfl
  | 11, _ => rfl
  | 12, _ => rfl
  | j + 13, h => exact absurd h (by omega)
