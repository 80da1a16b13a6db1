section
-- ===== PART A: goes FIRST, ahead of the names: the tables' words, and 'selects' of the private methods out of them =====
/-- a private method of a class that the tables say can be made, by its rows of tables_1 -/
def lw_okq (q : MethodName × Nat) : Prop := (q.1.cls ≠ "java/lang/invoke/MethodHandle" ∧ q.1.cls ≠ "java/lang/invoke/VarHandle") ∧ Cond.instantiable q.1.cls q.2 ∈ tables_1 ∧ Cond.privateMethod q.1 ∈ tables_1 ∧ Cond.instanceMethod q.1 ∈ tables_1
theorem lw_p0 : lw_okq (⟨"java/lang/Throwable", "fillInStackTrace", "(I)Ljava/lang/Throwable;"⟩, 6) := ⟨⟨by decide +kernel, by decide +kernel⟩, List.mem_of_getElem? (i := 241) (by decide +kernel), List.mem_of_getElem? (i := 239) (by decide +kernel), List.mem_of_getElem? (i := 240) (by decide +kernel)⟩
theorem lw_p1 : lw_okq (⟨"SnippetBank$Row", "takePrints", "()V"⟩, 4) := ⟨⟨by decide +kernel, by decide +kernel⟩, List.mem_of_getElem? (i := 24) (by decide +kernel), List.mem_of_getElem? (i := 276) (by decide +kernel), List.mem_of_getElem? (i := 277) (by decide +kernel)⟩
theorem lw_p2 : lw_okq (⟨"SnippetBank$Row", "printAt", "(I)I"⟩, 4) := ⟨⟨by decide +kernel, by decide +kernel⟩, List.mem_of_getElem? (i := 24) (by decide +kernel), List.mem_of_getElem? (i := 280) (by decide +kernel), List.mem_of_getElem? (i := 281) (by decide +kernel)⟩
theorem lw_p3 : lw_okq (⟨"SnippetBank$Row", "firstPlace", "(II)I"⟩, 4) := ⟨⟨by decide +kernel, by decide +kernel⟩, List.mem_of_getElem? (i := 24) (by decide +kernel), List.mem_of_getElem? (i := 284) (by decide +kernel), List.mem_of_getElem? (i := 285) (by decide +kernel)⟩
theorem lw_p4 : lw_okq (⟨"SnippetBank$Row", "hasPrint", "(I)Z"⟩, 4) := ⟨⟨by decide +kernel, by decide +kernel⟩, List.mem_of_getElem? (i := 24) (by decide +kernel), List.mem_of_getElem? (i := 288) (by decide +kernel), List.mem_of_getElem? (i := 289) (by decide +kernel)⟩
theorem lw_p5 : lw_okq (⟨"SnippetBank", "takeShares", "(I)V"⟩, 13) := ⟨⟨by decide +kernel, by decide +kernel⟩, List.mem_of_getElem? (i := 16) (by decide +kernel), List.mem_of_getElem? (i := 292) (by decide +kernel), List.mem_of_getElem? (i := 293) (by decide +kernel)⟩
theorem lw_p6 : lw_okq (⟨"SnippetBank", "settle", "()I"⟩, 13) := ⟨⟨by decide +kernel, by decide +kernel⟩, List.mem_of_getElem? (i := 16) (by decide +kernel), List.mem_of_getElem? (i := 303) (by decide +kernel), List.mem_of_getElem? (i := 304) (by decide +kernel)⟩
theorem lw_p7 : lw_okq (⟨"SnippetBank", "takeOrigins", "()V"⟩, 13) := ⟨⟨by decide +kernel, by decide +kernel⟩, List.mem_of_getElem? (i := 16) (by decide +kernel), List.mem_of_getElem? (i := 307) (by decide +kernel), List.mem_of_getElem? (i := 308) (by decide +kernel)⟩
theorem lw_p8 : lw_okq (⟨"SnippetBank", "bind", "(LSnippetBank$Binding;III)V"⟩, 13) := ⟨⟨by decide +kernel, by decide +kernel⟩, List.mem_of_getElem? (i := 16) (by decide +kernel), List.mem_of_getElem? (i := 311) (by decide +kernel), List.mem_of_getElem? (i := 312) (by decide +kernel)⟩
theorem lw_p9 : lw_okq (⟨"SnippetBank$Project", "isFar", "(II)Z"⟩, 8) := ⟨⟨by decide +kernel, by decide +kernel⟩, List.mem_of_getElem? (i := 121) (by decide +kernel), List.mem_of_getElem? (i := 351) (by decide +kernel), List.mem_of_getElem? (i := 352) (by decide +kernel)⟩
theorem lw_p10 : lw_okq (⟨"SnippetBank", "needPiece", "(I)V"⟩, 13) := ⟨⟨by decide +kernel, by decide +kernel⟩, List.mem_of_getElem? (i := 16) (by decide +kernel), List.mem_of_getElem? (i := 369) (by decide +kernel), List.mem_of_getElem? (i := 370) (by decide +kernel)⟩
theorem lw_p11 : lw_okq (⟨"SnippetBank", "offspring", "(I)I"⟩, 13) := ⟨⟨by decide +kernel, by decide +kernel⟩, List.mem_of_getElem? (i := 16) (by decide +kernel), List.mem_of_getElem? (i := 389) (by decide +kernel), List.mem_of_getElem? (i := 390) (by decide +kernel)⟩
theorem lw_p12 : lw_okq (⟨"SnippetBank", "usesOf", "(I)I"⟩, 13) := ⟨⟨by decide +kernel, by decide +kernel⟩, List.mem_of_getElem? (i := 16) (by decide +kernel), List.mem_of_getElem? (i := 394) (by decide +kernel), List.mem_of_getElem? (i := 395) (by decide +kernel)⟩
theorem lw_p13 : lw_okq (⟨"SnippetBank", "takeRivals", "(I)V"⟩, 13) := ⟨⟨by decide +kernel, by decide +kernel⟩, List.mem_of_getElem? (i := 16) (by decide +kernel), List.mem_of_getElem? (i := 425) (by decide +kernel), List.mem_of_getElem? (i := 426) (by decide +kernel)⟩
theorem lw_p14 : lw_okq (⟨"SnippetBank", "needLicence", "(I)V"⟩, 13) := ⟨⟨by decide +kernel, by decide +kernel⟩, List.mem_of_getElem? (i := 16) (by decide +kernel), List.mem_of_getElem? (i := 437) (by decide +kernel), List.mem_of_getElem? (i := 438) (by decide +kernel)⟩
theorem lw_p15 : lw_okq (⟨"SnippetBank", "piecesBoundBy", "(I)I"⟩, 13) := ⟨⟨by decide +kernel, by decide +kernel⟩, List.mem_of_getElem? (i := 16) (by decide +kernel), List.mem_of_getElem? (i := 442) (by decide +kernel), List.mem_of_getElem? (i := 443) (by decide +kernel)⟩
def lw_privs_1 : List (MethodName × Nat) := [(⟨"java/lang/Throwable", "fillInStackTrace", "(I)Ljava/lang/Throwable;"⟩, 6), (⟨"SnippetBank$Row", "takePrints", "()V"⟩, 4), (⟨"SnippetBank$Row", "printAt", "(I)I"⟩, 4), (⟨"SnippetBank$Row", "firstPlace", "(II)I"⟩, 4), (⟨"SnippetBank$Row", "hasPrint", "(I)Z"⟩, 4), (⟨"SnippetBank", "takeShares", "(I)V"⟩, 13), (⟨"SnippetBank", "settle", "()I"⟩, 13), (⟨"SnippetBank", "takeOrigins", "()V"⟩, 13), (⟨"SnippetBank", "bind", "(LSnippetBank$Binding;III)V"⟩, 13), (⟨"SnippetBank$Project", "isFar", "(II)Z"⟩, 8), (⟨"SnippetBank", "needPiece", "(I)V"⟩, 13), (⟨"SnippetBank", "offspring", "(I)I"⟩, 13), (⟨"SnippetBank", "usesOf", "(I)I"⟩, 13), (⟨"SnippetBank", "takeRivals", "(I)V"⟩, 13), (⟨"SnippetBank", "needLicence", "(I)V"⟩, 13), (⟨"SnippetBank", "piecesBoundBy", "(I)I"⟩, 13)]
theorem lw_r1 : ∀ q ∈ lw_privs_1, lw_okq q := List.forall_mem_cons.mpr ⟨lw_p0, List.forall_mem_cons.mpr ⟨lw_p1, List.forall_mem_cons.mpr ⟨lw_p2, List.forall_mem_cons.mpr ⟨lw_p3, List.forall_mem_cons.mpr ⟨lw_p4, List.forall_mem_cons.mpr ⟨lw_p5, List.forall_mem_cons.mpr ⟨lw_p6, List.forall_mem_cons.mpr ⟨lw_p7, List.forall_mem_cons.mpr ⟨lw_p8, List.forall_mem_cons.mpr ⟨lw_p9, List.forall_mem_cons.mpr ⟨lw_p10, List.forall_mem_cons.mpr ⟨lw_p11, List.forall_mem_cons.mpr ⟨lw_p12, List.forall_mem_cons.mpr ⟨lw_p13, List.forall_mem_cons.mpr ⟨lw_p14, List.forall_mem_cons.mpr ⟨lw_p15, fun _ h => absurd h List.not_mem_nil⟩⟩⟩⟩⟩⟩⟩⟩⟩⟩⟩⟩⟩⟩⟩⟩
theorem lw_p16 : lw_okq (⟨"SnippetBank", "needNode", "(II)V"⟩, 13) := ⟨⟨by decide +kernel, by decide +kernel⟩, List.mem_of_getElem? (i := 16) (by decide +kernel), List.mem_of_getElem? (i := 465) (by decide +kernel), List.mem_of_getElem? (i := 466) (by decide +kernel)⟩
theorem lw_p17 : lw_okq (⟨"SnippetBank", "needProject", "(I)V"⟩, 13) := ⟨⟨by decide +kernel, by decide +kernel⟩, List.mem_of_getElem? (i := 16) (by decide +kernel), List.mem_of_getElem? (i := 469) (by decide +kernel), List.mem_of_getElem? (i := 470) (by decide +kernel)⟩
theorem lw_p18 : lw_okq (⟨"SnippetBank", "projectsThatAre", "(I)I"⟩, 13) := ⟨⟨by decide +kernel, by decide +kernel⟩, List.mem_of_getElem? (i := 16) (by decide +kernel), List.mem_of_getElem? (i := 512) (by decide +kernel), List.mem_of_getElem? (i := 513) (by decide +kernel)⟩
theorem lw_p19 : lw_okq (⟨"SnippetBank", "nodesOfAll", "()I"⟩, 13) := ⟨⟨by decide +kernel, by decide +kernel⟩, List.mem_of_getElem? (i := 16) (by decide +kernel), List.mem_of_getElem? (i := 516) (by decide +kernel), List.mem_of_getElem? (i := 517) (by decide +kernel)⟩
theorem lw_p20 : lw_okq (⟨"SnippetBank", "firstPieces", "()I"⟩, 13) := ⟨⟨by decide +kernel, by decide +kernel⟩, List.mem_of_getElem? (i := 16) (by decide +kernel), List.mem_of_getElem? (i := 520) (by decide +kernel), List.mem_of_getElem? (i := 521) (by decide +kernel)⟩
theorem lw_p21 : lw_okq (⟨"SnippetBank$Project", "takeClashes", "(LSnippetBank$Binding;)I"⟩, 8) := ⟨⟨by decide +kernel, by decide +kernel⟩, List.mem_of_getElem? (i := 121) (by decide +kernel), List.mem_of_getElem? (i := 579) (by decide +kernel), List.mem_of_getElem? (i := 580) (by decide +kernel)⟩
theorem lw_p22 : lw_okq (⟨"SnippetBank$Project", "leavesNone", "(I)Z"⟩, 8) := ⟨⟨by decide +kernel, by decide +kernel⟩, List.mem_of_getElem? (i := 121) (by decide +kernel), List.mem_of_getElem? (i := 583) (by decide +kernel), List.mem_of_getElem? (i := 584) (by decide +kernel)⟩
theorem lw_p23 : lw_okq (⟨"SnippetBank", "foldPiece", "(JI)J"⟩, 13) := ⟨⟨by decide +kernel, by decide +kernel⟩, List.mem_of_getElem? (i := 16) (by decide +kernel), List.mem_of_getElem? (i := 604) (by decide +kernel), List.mem_of_getElem? (i := 605) (by decide +kernel)⟩
theorem lw_p24 : lw_okq (⟨"SnippetBank", "foldLicence", "(JI)J"⟩, 13) := ⟨⟨by decide +kernel, by decide +kernel⟩, List.mem_of_getElem? (i := 16) (by decide +kernel), List.mem_of_getElem? (i := 614) (by decide +kernel), List.mem_of_getElem? (i := 615) (by decide +kernel)⟩
theorem lw_p25 : lw_okq (⟨"SnippetBank", "foldProject", "(JI)J"⟩, 13) := ⟨⟨by decide +kernel, by decide +kernel⟩, List.mem_of_getElem? (i := 16) (by decide +kernel), List.mem_of_getElem? (i := 619) (by decide +kernel), List.mem_of_getElem? (i := 620) (by decide +kernel)⟩
theorem lw_p26 : lw_okq (⟨"SnippetBank", "foldNode", "(JII)J"⟩, 13) := ⟨⟨by decide +kernel, by decide +kernel⟩, List.mem_of_getElem? (i := 16) (by decide +kernel), List.mem_of_getElem? (i := 625) (by decide +kernel), List.mem_of_getElem? (i := 626) (by decide +kernel)⟩
def lw_privs_2 : List (MethodName × Nat) := [(⟨"SnippetBank", "needNode", "(II)V"⟩, 13), (⟨"SnippetBank", "needProject", "(I)V"⟩, 13), (⟨"SnippetBank", "projectsThatAre", "(I)I"⟩, 13), (⟨"SnippetBank", "nodesOfAll", "()I"⟩, 13), (⟨"SnippetBank", "firstPieces", "()I"⟩, 13), (⟨"SnippetBank$Project", "takeClashes", "(LSnippetBank$Binding;)I"⟩, 8), (⟨"SnippetBank$Project", "leavesNone", "(I)Z"⟩, 8), (⟨"SnippetBank", "foldPiece", "(JI)J"⟩, 13), (⟨"SnippetBank", "foldLicence", "(JI)J"⟩, 13), (⟨"SnippetBank", "foldProject", "(JI)J"⟩, 13), (⟨"SnippetBank", "foldNode", "(JII)J"⟩, 13)]
theorem lw_r2 : ∀ q ∈ lw_privs_2, lw_okq q := List.forall_mem_cons.mpr ⟨lw_p16, List.forall_mem_cons.mpr ⟨lw_p17, List.forall_mem_cons.mpr ⟨lw_p18, List.forall_mem_cons.mpr ⟨lw_p19, List.forall_mem_cons.mpr ⟨lw_p20, List.forall_mem_cons.mpr ⟨lw_p21, List.forall_mem_cons.mpr ⟨lw_p22, List.forall_mem_cons.mpr ⟨lw_p23, List.forall_mem_cons.mpr ⟨lw_p24, List.forall_mem_cons.mpr ⟨lw_p25, List.forall_mem_cons.mpr ⟨lw_p26, fun _ h => absurd h List.not_mem_nil⟩⟩⟩⟩⟩⟩⟩⟩⟩⟩⟩
def lw_privs : List (MethodName × Nat) := lw_privs_1 ++ (lw_privs_2)
def lw_tbl : List Cond := k2_sels lw_privs ++ tables_1
theorem lw_privs_ok : ∀ q ∈ lw_privs, lw_okq q := by
  show ∀ q ∈ lw_privs_1 ++ (lw_privs_2), lw_okq q
  exact List.forall_mem_append.mpr ⟨lw_r1, lw_r2⟩
end
section
def RX0 : String := "SnippetBank$Binding"
def TX0 : u_T := fun k => match k with
  | 0 => ("SnippetBank$Binding", "sets", "[I", true)
  | 1 => ("SnippetBank$Binding", "asked", "[I", true)
  | 2 => ("SnippetBank$Binding", "rivals", "[I", true)
  | _ => ("SnippetBank$Binding", "farRivals", "[I", true)
def tyX0 : Nat → FieldType := fun k => match k with
  | 0 => .array .int
  | 1 => .array .int
  | 2 => .array .int
  | _ => .array .int
abbrev wsX00 : List Cond := u_ws RX0 TX0 4
theorem nmX0 : ∀ a, a < 4 → ∀ b, b < 4 → a ≠ b → (TX0 a).2.1 ≠ (TX0 b).2.1 := by decide +kernel
theorem tyX0_ok : ∀ k, k < 4 → parseFieldDescriptor (TX0 k).2.2.1 = some (tyX0 k) := by decide +kernel
abbrev cX0_init : ByteArray := prog_2_method_1_code
def yX0_init : MethodName := ⟨RX0, "<init>", "()V"⟩
abbrev cX0_put : ByteArray := prog_2_method_2_code
def yX0_put : MethodName := ⟨RX0, "put", "(II[LSnippetBank$Licence;)V"⟩
abbrev cX0_licencesOf : ByteArray := prog_2_method_3_code
def yX0_licencesOf : MethodName := ⟨RX0, "licencesOf", "(I)I"⟩
abbrev cX0_dutiesOf : ByteArray := prog_2_method_4_code
def yX0_dutiesOf : MethodName := ⟨RX0, "dutiesOf", "(I)I"⟩
abbrev cX0_isClash : ByteArray := prog_2_method_5_code
def yX0_isClash : MethodName := ⟨RX0, "isClash", "(IIZ)Z"⟩
def RX1 : String := "SnippetBank$Licence"
def TX1 : u_T := fun k => match k with
  | 0 => ("SnippetBank$Licence", "asks", "I", false)
  | 1 => ("SnippetBank$Licence", "forbids", "I", false)
  | 2 => ("SnippetBank$Licence", "isStrong", "Z", false)
  | 3 => ("SnippetBank$Licence", "patience", "I", false)
  | _ => ("SnippetBank$Licence", "rivals", "I", false)
def tyX1 : Nat → FieldType := fun k => match k with
  | 0 => .int
  | 1 => .int
  | 2 => .boolean
  | 3 => .int
  | _ => .int
abbrev wsX10 : List Cond := u_ws RX1 TX1 5
theorem nmX1 : ∀ a, a < 5 → ∀ b, b < 5 → a ≠ b → (TX1 a).2.1 ≠ (TX1 b).2.1 := by decide +kernel
theorem tyX1_ok : ∀ k, k < 5 → parseFieldDescriptor (TX1 k).2.2.1 = some (tyX1 k) := by decide +kernel
abbrev cX1_init : ByteArray := prog_3_method_1_code
def yX1_init : MethodName := ⟨RX1, "<init>", "()V"⟩
abbrev cX1_isRivalOf : ByteArray := prog_3_method_2_code
def yX1_isRivalOf : MethodName := ⟨RX1, "isRivalOf", "(LSnippetBank$Licence;)Z"⟩
def RX2 : String := "SnippetBank$Piece"
def TX2 : u_T := fun k => match k with
  | 0 => ("SnippetBank$Piece", "row", "LSnippetBank$Row;", true)
  | 1 => ("SnippetBank$Piece", "own", "I", false)
  | _ => ("SnippetBank$Piece", "freed", "I", false)
def tyX2 : Nat → FieldType := fun k => match k with
  | 0 => .object "SnippetBank$Row"
  | 1 => .int
  | _ => .int
abbrev wsX20 : List Cond := u_ws RX2 TX2 3
theorem nmX2 : ∀ a, a < 3 → ∀ b, b < 3 → a ≠ b → (TX2 a).2.1 ≠ (TX2 b).2.1 := by decide +kernel
theorem tyX2_ok : ∀ k, k < 3 → parseFieldDescriptor (TX2 k).2.2.1 = some (tyX2 k) := by decide +kernel
abbrev cX2_init : ByteArray := prog_4_method_1_code
def yX2_init : MethodName := ⟨RX2, "<init>", "()V"⟩
def RX3 : String := "SnippetBank$Project"
def TX3 : u_T := fun k => match k with
  | 0 => ("SnippetBank$Project", "parents", "[I", true)
  | 1 => ("SnippetBank$Project", "above", "[I", true)
  | 2 => ("SnippetBank$Project", "contents", "[I", true)
  | 3 => ("SnippetBank$Project", "clashes", "[I", true)
  | 4 => ("SnippetBank$Project", "nodes", "I", false)
  | 5 => ("SnippetBank$Project", "notices", "I", false)
  | 6 => ("SnippetBank$Project", "state", "I", false)
  | _ => ("SnippetBank$Project", "recalls", "I", false)
def tyX3 : Nat → FieldType := fun k => match k with
  | 0 => .array .int
  | 1 => .array .int
  | 2 => .array .int
  | 3 => .array .int
  | 4 => .int
  | 5 => .int
  | 6 => .int
  | _ => .int
abbrev wsX30 : List Cond := u_ws RX3 TX3 8
theorem nmX3 : ∀ a, a < 8 → ∀ b, b < 8 → a ≠ b → (TX3 a).2.1 ≠ (TX3 b).2.1 := by decide +kernel
theorem tyX3_ok : ∀ k, k < 8 → parseFieldDescriptor (TX3 k).2.2.1 = some (tyX3 k) := by decide +kernel
abbrev cX3_init : ByteArray := prog_5_method_1_code
def yX3_init : MethodName := ⟨RX3, "<init>", "()V"⟩
abbrev cX3_hasNode : ByteArray := prog_5_method_2_code
def yX3_hasNode : MethodName := ⟨RX3, "hasNode", "(I)Z"⟩
abbrev cX3_firstFreeNode : ByteArray := prog_5_method_3_code
def yX3_firstFreeNode : MethodName := ⟨RX3, "firstFreeNode", "()I"⟩
abbrev cX3_grow : ByteArray := prog_5_method_4_code
def yX3_grow : MethodName := ⟨RX3, "grow", "(III)V"⟩
abbrev cX3_usesOf : ByteArray := prog_5_method_6_code
def yX3_usesOf : MethodName := ⟨RX3, "usesOf", "(I)I"⟩
abbrev cX3_clashesOf : ByteArray := prog_5_method_7_code
def yX3_clashesOf : MethodName := ⟨RX3, "clashesOf", "(IILSnippetBank$Binding;)I"⟩
abbrev cX3_isFar : ByteArray := prog_5_method_8_code
def yX3_isFar : MethodName := ⟨RX3, "isFar", "(II)Z"⟩
abbrev cX3_countClashes : ByteArray := prog_5_method_9_code
def yX3_countClashes : MethodName := ⟨RX3, "countClashes", "(LSnippetBank$Binding;)I"⟩
abbrev cX3_duties : ByteArray := prog_5_method_10_code
def yX3_duties : MethodName := ⟨RX3, "duties", "(LSnippetBank$Binding;)I"⟩
abbrev cX3_isInOrder : ByteArray := prog_5_method_11_code
def yX3_isInOrder : MethodName := ⟨RX3, "isInOrder", "(LSnippetBank$Binding;)Z"⟩
abbrev cX3_isRecalledUnder : ByteArray := prog_5_method_12_code
def yX3_isRecalledUnder : MethodName := ⟨RX3, "isRecalledUnder", "(LSnippetBank$Binding;)Z"⟩
abbrev cX3_fewestToEmpty : ByteArray := prog_5_method_13_code
def yX3_fewestToEmpty : MethodName := ⟨RX3, "fewestToEmpty", "(LSnippetBank$Binding;)I"⟩
abbrev cX3_takeClashes : ByteArray := prog_5_method_14_code
def yX3_takeClashes : MethodName := ⟨RX3, "takeClashes", "(LSnippetBank$Binding;)I"⟩
abbrev cX3_leavesNone : ByteArray := prog_5_method_15_code
def yX3_leavesNone : MethodName := ⟨RX3, "leavesNone", "(I)Z"⟩
def RX4 : String := "SnippetBank$Row"
def TX4 : u_T := fun k => match k with
  | 0 => ("SnippetBank$Row", "tokens", "[I", true)
  | 1 => ("SnippetBank$Row", "prints", "[I", true)
  | 2 => ("SnippetBank$Row", "length", "I", false)
  | _ => ("SnippetBank$Row", "printCount", "I", false)
def tyX4 : Nat → FieldType := fun k => match k with
  | 0 => .array .int
  | 1 => .array .int
  | 2 => .int
  | _ => .int
abbrev wsX40 : List Cond := u_ws RX4 TX4 4
theorem nmX4 : ∀ a, a < 4 → ∀ b, b < 4 → a ≠ b → (TX4 a).2.1 ≠ (TX4 b).2.1 := by decide +kernel
theorem tyX4_ok : ∀ k, k < 4 → parseFieldDescriptor (TX4 k).2.2.1 = some (tyX4 k) := by decide +kernel
abbrev cX4_init : ByteArray := prog_6_method_1_code
def yX4_init : MethodName := ⟨RX4, "<init>", "()V"⟩
abbrev cX4_append : ByteArray := prog_6_method_2_code
def yX4_append : MethodName := ⟨RX4, "append", "(I)V"⟩
abbrev cX4_dropFirst : ByteArray := prog_6_method_3_code
def yX4_dropFirst : MethodName := ⟨RX4, "dropFirst", "(I)V"⟩
abbrev cX4_become : ByteArray := prog_6_method_4_code
def yX4_become : MethodName := ⟨RX4, "become", "(LSnippetBank$Row;I)V"⟩
abbrev cX4_shareWith : ByteArray := prog_6_method_5_code
def yX4_shareWith : MethodName := ⟨RX4, "shareWith", "(LSnippetBank$Row;)I"⟩
abbrev cX4_takePrints : ByteArray := prog_6_method_6_code
def yX4_takePrints : MethodName := ⟨RX4, "takePrints", "()V"⟩
abbrev cX4_hasPrint : ByteArray := prog_6_method_7_code
def yX4_hasPrint : MethodName := ⟨RX4, "hasPrint", "(I)Z"⟩
abbrev cX4_printAt : ByteArray := prog_6_method_8_code
def yX4_printAt : MethodName := ⟨RX4, "printAt", "(I)I"⟩
abbrev cX4_firstPlace : ByteArray := prog_6_method_9_code
def yX4_firstPlace : MethodName := ⟨RX4, "firstPlace", "(II)I"⟩
def RX5 : String := "SnippetBank"
def TX5 : u_T := fun k => match k with
  | 0 => ("SnippetBank", "draftRow", "LSnippetBank$Row;", true)
  | 1 => ("SnippetBank", "pieces", "[LSnippetBank$Piece;", true)
  | 2 => ("SnippetBank", "shares", "[[I", true)
  | 3 => ("SnippetBank", "origins", "[I", true)
  | 4 => ("SnippetBank", "licences", "[LSnippetBank$Licence;", true)
  | 5 => ("SnippetBank", "projects", "[LSnippetBank$Project;", true)
  | 6 => ("SnippetBank", "binding", "LSnippetBank$Binding;", true)
  | 7 => ("SnippetBank", "supposed", "LSnippetBank$Binding;", true)
  | 8 => ("SnippetBank", "pieceCount", "I", false)
  | 9 => ("SnippetBank", "licenceCount", "I", false)
  | 10 => ("SnippetBank", "projectCount", "I", false)
  | 11 => ("SnippetBank", "grantedCount", "I", false)
  | _ => ("SnippetBank", "nearLimit", "I", false)
def tyX5 : Nat → FieldType := fun k => match k with
  | 0 => .object "SnippetBank$Row"
  | 1 => .array (.object "SnippetBank$Piece")
  | 2 => .array (.array .int)
  | 3 => .array .int
  | 4 => .array (.object "SnippetBank$Licence")
  | 5 => .array (.object "SnippetBank$Project")
  | 6 => .object "SnippetBank$Binding"
  | 7 => .object "SnippetBank$Binding"
  | 8 => .int
  | 9 => .int
  | 10 => .int
  | 11 => .int
  | _ => .int
abbrev wsX50 : List Cond := u_ws RX5 TX5 13
theorem nmX5 : ∀ a, a < 13 → ∀ b, b < 13 → a ≠ b → (TX5 a).2.1 ≠ (TX5 b).2.1 := by decide +kernel
theorem tyX5_ok : ∀ k, k < 13 → parseFieldDescriptor (TX5 k).2.2.1 = some (tyX5 k) := by decide +kernel
abbrev cX5_init : ByteArray := prog_1_method_1_code
def yX5_init : MethodName := ⟨RX5, "<init>", "()V"⟩
abbrev cX5_token : ByteArray := prog_1_method_2_code
def yX5_token : MethodName := ⟨RX5, "token", "(I)I"⟩
abbrev cX5_cut : ByteArray := prog_1_method_3_code
def yX5_cut : MethodName := ⟨RX5, "cut", "(I)I"⟩
abbrev cX5_copy : ByteArray := prog_1_method_4_code
def yX5_copy : MethodName := ⟨RX5, "copy", "(II)I"⟩
abbrev cX5_keep : ByteArray := prog_1_method_5_code
def yX5_keep : MethodName := ⟨RX5, "keep", "()I"⟩
abbrev cX5_scan : ByteArray := prog_1_method_7_code
def yX5_scan : MethodName := ⟨RX5, "scan", "(I)I"⟩
abbrev cX5_share : ByteArray := prog_1_method_8_code
def yX5_share : MethodName := ⟨RX5, "share", "(II)I"⟩
abbrev cX5_ofPiece : ByteArray := prog_1_method_9_code
def yX5_ofPiece : MethodName := ⟨RX5, "ofPiece", "(II)I"⟩
abbrev cX5_licence : ByteArray := prog_1_method_11_code
def yX5_licence : MethodName := ⟨RX5, "licence", "(IIZI)I"⟩
abbrev cX5_ofLicence : ByteArray := prog_1_method_12_code
def yX5_ofLicence : MethodName := ⟨RX5, "ofLicence", "(II)I"⟩
abbrev cX5_tell : ByteArray := prog_1_method_13_code
def yX5_tell : MethodName := ⟨RX5, "tell", "(II)I"⟩
abbrev cX5_ask : ByteArray := prog_1_method_14_code
def yX5_ask : MethodName := ⟨RX5, "ask", "(II)Z"⟩
abbrev cX5_project : ByteArray := prog_1_method_15_code
def yX5_project : MethodName := ⟨RX5, "project", "()I"⟩
abbrev cX5_node : ByteArray := prog_1_method_16_code
def yX5_node : MethodName := ⟨RX5, "node", "(III)I"⟩
abbrev cX5_replace : ByteArray := prog_1_method_17_code
def yX5_replace : MethodName := ⟨RX5, "replace", "(III)I"⟩
abbrev cX5_ofNode : ByteArray := prog_1_method_19_code
def yX5_ofNode : MethodName := ⟨RX5, "ofNode", "(III)I"⟩
abbrev cX5_notice : ByteArray := prog_1_method_20_code
def yX5_notice : MethodName := ⟨RX5, "notice", "(IIZ)Z"⟩
abbrev cX5_ship : ByteArray := prog_1_method_21_code
def yX5_ship : MethodName := ⟨RX5, "ship", "(I)I"⟩
abbrev cX5_ofProject : ByteArray := prog_1_method_22_code
def yX5_ofProject : MethodName := ⟨RX5, "ofProject", "(II)I"⟩
abbrev cX5_many : ByteArray := prog_1_method_23_code
def yX5_many : MethodName := ⟨RX5, "many", "(I)I"⟩
abbrev cX5_recalledBy : ByteArray := prog_1_method_25_code
def yX5_recalledBy : MethodName := ⟨RX5, "recalledBy", "(II)I"⟩
abbrev cX5_clashesWith : ByteArray := prog_1_method_26_code
def yX5_clashesWith : MethodName := ⟨RX5, "clashesWith", "(III)I"⟩
abbrev cX5_remedy : ByteArray := prog_1_method_27_code
def yX5_remedy : MethodName := ⟨RX5, "remedy", "(I)I"⟩
abbrev cX5_substitute : ByteArray := prog_1_method_28_code
def yX5_substitute : MethodName := ⟨RX5, "substitute", "(II)I"⟩
abbrev cX5_boundWith : ByteArray := prog_1_method_29_code
def yX5_boundWith : MethodName := ⟨RX5, "boundWith", "(I)I"⟩
abbrev cX5_digest : ByteArray := prog_1_method_30_code
def yX5_digest : MethodName := ⟨RX5, "digest", "()J"⟩
abbrev cX5_fold : ByteArray := prog_1_method_31_code
def yX5_fold : MethodName := ⟨RX5, "fold", "(JI)J"⟩
abbrev cX5_foldPiece : ByteArray := prog_1_method_32_code
def yX5_foldPiece : MethodName := ⟨RX5, "foldPiece", "(JI)J"⟩
abbrev cX5_foldLicence : ByteArray := prog_1_method_33_code
def yX5_foldLicence : MethodName := ⟨RX5, "foldLicence", "(JI)J"⟩
abbrev cX5_foldProject : ByteArray := prog_1_method_34_code
def yX5_foldProject : MethodName := ⟨RX5, "foldProject", "(JI)J"⟩
abbrev cX5_foldNode : ByteArray := prog_1_method_35_code
def yX5_foldNode : MethodName := ⟨RX5, "foldNode", "(JII)J"⟩
abbrev cX5_needPiece : ByteArray := prog_1_method_36_code
def yX5_needPiece : MethodName := ⟨RX5, "needPiece", "(I)V"⟩
abbrev cX5_needLicence : ByteArray := prog_1_method_37_code
def yX5_needLicence : MethodName := ⟨RX5, "needLicence", "(I)V"⟩
abbrev cX5_needProject : ByteArray := prog_1_method_38_code
def yX5_needProject : MethodName := ⟨RX5, "needProject", "(I)V"⟩
abbrev cX5_needNode : ByteArray := prog_1_method_39_code
def yX5_needNode : MethodName := ⟨RX5, "needNode", "(II)V"⟩
abbrev cX5_needNearness : ByteArray := prog_1_method_40_code
def yX5_needNearness : MethodName := ⟨RX5, "needNearness", "(I)V"⟩
abbrev cX5_hasBit : ByteArray := prog_1_method_41_code
def yX5_hasBit : MethodName := ⟨RX5, "hasBit", "(II)Z"⟩
abbrev cX5_takeShares : ByteArray := prog_1_method_42_code
def yX5_takeShares : MethodName := ⟨RX5, "takeShares", "(I)V"⟩
abbrev cX5_takeRivals : ByteArray := prog_1_method_43_code
def yX5_takeRivals : MethodName := ⟨RX5, "takeRivals", "(I)V"⟩
abbrev cX5_settle : ByteArray := prog_1_method_44_code
def yX5_settle : MethodName := ⟨RX5, "settle", "()I"⟩
abbrev cX5_takeOrigins : ByteArray := prog_1_method_45_code
def yX5_takeOrigins : MethodName := ⟨RX5, "takeOrigins", "()V"⟩
abbrev cX5_bind : ByteArray := prog_1_method_46_code
def yX5_bind : MethodName := ⟨RX5, "bind", "(LSnippetBank$Binding;III)V"⟩
abbrev cX5_offspring : ByteArray := prog_1_method_47_code
def yX5_offspring : MethodName := ⟨RX5, "offspring", "(I)I"⟩
abbrev cX5_usesOf : ByteArray := prog_1_method_48_code
def yX5_usesOf : MethodName := ⟨RX5, "usesOf", "(I)I"⟩
abbrev cX5_piecesBoundBy : ByteArray := prog_1_method_49_code
def yX5_piecesBoundBy : MethodName := ⟨RX5, "piecesBoundBy", "(I)I"⟩
abbrev cX5_projectsThatAre : ByteArray := prog_1_method_50_code
def yX5_projectsThatAre : MethodName := ⟨RX5, "projectsThatAre", "(I)I"⟩
abbrev cX5_nodesOfAll : ByteArray := prog_1_method_51_code
def yX5_nodesOfAll : MethodName := ⟨RX5, "nodesOfAll", "()I"⟩
abbrev cX5_firstPieces : ByteArray := prog_1_method_52_code
def yX5_firstPieces : MethodName := ⟨RX5, "firstPieces", "()I"⟩
def RX6 : String := "SnippetBankModel$Licence"
def TX6 : u_T := fun k => match k with
  | _ => ("", "", "", false)
def tyX6 : Nat → FieldType := fun k => match k with
  | _ => .int
abbrev wsX60 : List Cond := u_ws RX6 TX6 0
theorem nmX6 : ∀ a, a < 0 → ∀ b, b < 0 → a ≠ b → (TX6 a).2.1 ≠ (TX6 b).2.1 := by decide +kernel
theorem tyX6_ok : ∀ k, k < 0 → parseFieldDescriptor (TX6 k).2.2.1 = some (tyX6 k) := by decide +kernel
def RX7 : String := "SnippetBankModel$Piece"
def TX7 : u_T := fun k => match k with
  | _ => ("", "", "", false)
def tyX7 : Nat → FieldType := fun k => match k with
  | _ => .int
abbrev wsX70 : List Cond := u_ws RX7 TX7 0
theorem nmX7 : ∀ a, a < 0 → ∀ b, b < 0 → a ≠ b → (TX7 a).2.1 ≠ (TX7 b).2.1 := by decide +kernel
theorem tyX7_ok : ∀ k, k < 0 → parseFieldDescriptor (TX7 k).2.2.1 = some (tyX7 k) := by decide +kernel
def RX8 : String := "SnippetBankModel$Project"
def TX8 : u_T := fun k => match k with
  | _ => ("", "", "", false)
def tyX8 : Nat → FieldType := fun k => match k with
  | _ => .int
abbrev wsX80 : List Cond := u_ws RX8 TX8 0
theorem nmX8 : ∀ a, a < 0 → ∀ b, b < 0 → a ≠ b → (TX8 a).2.1 ≠ (TX8 b).2.1 := by decide +kernel
theorem tyX8_ok : ∀ k, k < 0 → parseFieldDescriptor (TX8 k).2.2.1 = some (tyX8 k) := by decide +kernel
def RX9 : String := "SnippetBankModel"
def TX9 : u_T := fun k => match k with
  | _ => ("", "", "", false)
def tyX9 : Nat → FieldType := fun k => match k with
  | _ => .int
abbrev wsX90 : List Cond := u_ws RX9 TX9 0
theorem nmX9 : ∀ a, a < 0 → ∀ b, b < 0 → a ≠ b → (TX9 a).2.1 ≠ (TX9 b).2.1 := by decide +kernel
theorem tyX9_ok : ∀ k, k < 0 → parseFieldDescriptor (TX9 k).2.2.1 = some (tyX9 k) := by decide +kernel
def RJx145de : String := "java/io/Serializable"
def TJx145de : u_T := fun k => match k with
  | _ => ("", "", "", false)
def tyJx145de : Nat → FieldType := fun k => match k with
  | _ => .int
abbrev wsJx145de0 : List Cond := u_ws RJx145de TJx145de 0
theorem nmJx145de : ∀ a, a < 0 → ∀ b, b < 0 → a ≠ b → (TJx145de a).2.1 ≠ (TJx145de b).2.1 := by decide +kernel
theorem tyJx145de_ok : ∀ k, k < 0 → parseFieldDescriptor (TJx145de k).2.2.1 = some (tyJx145de k) := by decide +kernel
def RJ6 : String := "java/lang/Integer"
def TJ6 : u_T := fun k => match k with
  | _ => ("", "", "", false)
def tyJ6 : Nat → FieldType := fun k => match k with
  | _ => .int
abbrev wsJ60 : List Cond := u_ws RJ6 TJ6 0
theorem nmJ6 : ∀ a, a < 0 → ∀ b, b < 0 → a ≠ b → (TJ6 a).2.1 ≠ (TJ6 b).2.1 := by decide +kernel
theorem tyJ6_ok : ∀ k, k < 0 → parseFieldDescriptor (TJ6 k).2.2.1 = some (tyJ6 k) := by decide +kernel
abbrev cJ6_bitCount_0f7a4 : ByteArray := prog_16_method_49_code
def yJ6_bitCount_0f7a4 : MethodName := ⟨RJ6, "bitCount", "(I)I"⟩
def RJ9 : String := "java/lang/Math"
def TJ9 : u_T := fun k => match k with
  | _ => ("", "", "", false)
def tyJ9 : Nat → FieldType := fun k => match k with
  | _ => .int
abbrev wsJ90 : List Cond := u_ws RJ9 TJ9 0
theorem nmJ9 : ∀ a, a < 0 → ∀ b, b < 0 → a ≠ b → (TJ9 a).2.1 ≠ (TJ9 b).2.1 := by decide +kernel
theorem tyJ9_ok : ∀ k, k < 0 → parseFieldDescriptor (TJ9 k).2.2.1 = some (tyJ9 k) := by decide +kernel
abbrev cJ9_min_7cf53 : ByteArray := prog_17_method_69_code
def yJ9_min_7cf53 : MethodName := ⟨RJ9, "min", "(II)I"⟩
def RJ0 : String := "java/lang/String"
def TJ0 : u_T := fun k => match k with
  | _ => ("", "", "", false)
def tyJ0 : Nat → FieldType := fun k => match k with
  | _ => .int
abbrev wsJ00 : List Cond := u_ws RJ0 TJ0 0
theorem nmJ0 : ∀ a, a < 0 → ∀ b, b < 0 → a ≠ b → (TJ0 a).2.1 ≠ (TJ0 b).2.1 := by decide +kernel
theorem tyJ0_ok : ∀ k, k < 0 → parseFieldDescriptor (TJ0 k).2.2.1 = some (tyJ0 k) := by decide +kernel
def RL : String := "SnippetBankLaw"
abbrev cL_below : ByteArray := method_2_code
def yL_below : MethodName := ⟨RL, "below", "(II)I"⟩
abbrev cL_cell : ByteArray := method_3_code
def yL_cell : MethodName := ⟨RL, "cell", "([II)I"⟩
abbrev cL_law : ByteArray := code
def yL_law : MethodName := ⟨RL, "law", "([I)Z"⟩
abbrev cL_isWritten : ByteArray := method_5_code
def yL_isWritten : MethodName := ⟨RL, "isWritten", "(LSnippetBank;II)Z"⟩
abbrev cL_isCleared : ByteArray := method_6_code
def yL_isCleared : MethodName := ⟨RL, "isCleared", "(LSnippetBank;I)Z"⟩
abbrev cL_isFair : ByteArray := method_7_code
def yL_isFair : MethodName := ⟨RL, "isFair", "(LSnippetBank;)Z"⟩
theorem dX0_init_0 : decode cX0_init 0 = .ok (.aload_n 0, 1) := by decide +kernel
theorem dX0_init_1 : decode cX0_init 1 = .ok (.invokespecial 3, 3) := by decide +kernel
theorem dX0_init_4 : decode cX0_init 4 = .ok (.aload_n 0, 1) := by decide +kernel
theorem dX0_init_5 : decode cX0_init 5 = .ok (.bipush 16, 2) := by decide +kernel
theorem dX0_init_7 : decode cX0_init 7 = .ok (.newarray .int, 2) := by decide +kernel
theorem dX0_init_9 : decode cX0_init 9 = .ok (.putfield 9, 3) := by decide +kernel
theorem dX0_init_12 : decode cX0_init 12 = .ok (.aload_n 0, 1) := by decide +kernel
theorem dX0_init_13 : decode cX0_init 13 = .ok (.bipush 16, 2) := by decide +kernel
theorem dX0_init_15 : decode cX0_init 15 = .ok (.newarray .int, 2) := by decide +kernel
theorem dX0_init_17 : decode cX0_init 17 = .ok (.putfield 15, 3) := by decide +kernel
theorem dX0_init_20 : decode cX0_init 20 = .ok (.aload_n 0, 1) := by decide +kernel
theorem dX0_init_21 : decode cX0_init 21 = .ok (.bipush 16, 2) := by decide +kernel
theorem dX0_init_23 : decode cX0_init 23 = .ok (.newarray .int, 2) := by decide +kernel
theorem dX0_init_25 : decode cX0_init 25 = .ok (.putfield 18, 3) := by decide +kernel
theorem dX0_init_28 : decode cX0_init 28 = .ok (.aload_n 0, 1) := by decide +kernel
theorem dX0_init_29 : decode cX0_init 29 = .ok (.bipush 16, 2) := by decide +kernel
theorem dX0_init_31 : decode cX0_init 31 = .ok (.newarray .int, 2) := by decide +kernel
theorem dX0_init_33 : decode cX0_init 33 = .ok (.putfield 21, 3) := by decide +kernel
theorem dX0_init_36 : decode cX0_init 36 = .ok (.return_, 1) := by decide +kernel
theorem dX0_put_0 : decode cX0_put 0 = .ok (.iconst 0, 1) := by decide +kernel
theorem dX0_put_1 : decode cX0_put 1 = .ok (.istore 4, 2) := by decide +kernel
theorem dX0_put_3 : decode cX0_put 3 = .ok (.iconst 0, 1) := by decide +kernel
theorem dX0_put_4 : decode cX0_put 4 = .ok (.istore 5, 2) := by decide +kernel
theorem dX0_put_6 : decode cX0_put 6 = .ok (.iload 5, 2) := by decide +kernel
theorem dX0_put_8 : decode cX0_put 8 = .ok (.bipush 6, 2) := by decide +kernel
theorem dX0_put_10 : decode cX0_put 10 = .ok (.if_icmp .ge 32, 3) := by decide +kernel
theorem dX0_put_13 : decode cX0_put 13 = .ok (.iload 4, 2) := by decide +kernel
theorem dX0_put_15 : decode cX0_put 15 = .ok (.aload_n 3, 1) := by decide +kernel
theorem dX0_put_16 : decode cX0_put 16 = .ok (.iload 5, 2) := by decide +kernel
theorem dX0_put_18 : decode cX0_put 18 = .ok (.aaload, 1) := by decide +kernel
theorem dX0_put_19 : decode cX0_put 19 = .ok (.getfield 24, 3) := by decide +kernel
theorem dX0_put_22 : decode cX0_put 22 = .ok (.ifCond .eq 10, 3) := by decide +kernel
theorem dX0_put_25 : decode cX0_put 25 = .ok (.iconst 1, 1) := by decide +kernel
theorem dX0_put_26 : decode cX0_put 26 = .ok (.iload 5, 2) := by decide +kernel
theorem dX0_put_28 : decode cX0_put 28 = .ok (.ishl, 1) := by decide +kernel
theorem dX0_put_29 : decode cX0_put 29 = .ok (.goto 4, 3) := by decide +kernel
theorem dX0_put_32 : decode cX0_put 32 = .ok (.iconst 0, 1) := by decide +kernel
theorem dX0_put_33 : decode cX0_put 33 = .ok (.ior, 1) := by decide +kernel
theorem dX0_put_34 : decode cX0_put 34 = .ok (.istore 4, 2) := by decide +kernel
theorem dX0_put_36 : decode cX0_put 36 = .ok (.iinc 5 1, 3) := by decide +kernel
theorem dX0_put_39 : decode cX0_put 39 = .ok (.goto (-33), 3) := by decide +kernel
theorem dX0_put_42 : decode cX0_put 42 = .ok (.aload_n 0, 1) := by decide +kernel
theorem dX0_put_43 : decode cX0_put 43 = .ok (.getfield 9, 3) := by decide +kernel
theorem dX0_put_46 : decode cX0_put 46 = .ok (.iload_n 1, 1) := by decide +kernel
theorem dX0_put_47 : decode cX0_put 47 = .ok (.iload_n 2, 1) := by decide +kernel
theorem dX0_put_48 : decode cX0_put 48 = .ok (.iastore, 1) := by decide +kernel
theorem dX0_put_49 : decode cX0_put 49 = .ok (.aload_n 0, 1) := by decide +kernel
theorem dX0_put_50 : decode cX0_put 50 = .ok (.getfield 15, 3) := by decide +kernel
theorem dX0_put_53 : decode cX0_put 53 = .ok (.iload_n 1, 1) := by decide +kernel
theorem dX0_put_54 : decode cX0_put 54 = .ok (.iconst 0, 1) := by decide +kernel
theorem dX0_put_55 : decode cX0_put 55 = .ok (.iastore, 1) := by decide +kernel
theorem dX0_put_56 : decode cX0_put 56 = .ok (.aload_n 0, 1) := by decide +kernel
theorem dX0_put_57 : decode cX0_put 57 = .ok (.getfield 18, 3) := by decide +kernel
theorem dX0_put_60 : decode cX0_put 60 = .ok (.iload_n 1, 1) := by decide +kernel
theorem dX0_put_61 : decode cX0_put 61 = .ok (.iconst 0, 1) := by decide +kernel
theorem dX0_put_62 : decode cX0_put 62 = .ok (.iastore, 1) := by decide +kernel
theorem dX0_put_63 : decode cX0_put 63 = .ok (.aload_n 0, 1) := by decide +kernel
theorem dX0_put_64 : decode cX0_put 64 = .ok (.getfield 21, 3) := by decide +kernel
theorem dX0_put_67 : decode cX0_put 67 = .ok (.iload_n 1, 1) := by decide +kernel
theorem dX0_put_68 : decode cX0_put 68 = .ok (.iconst 0, 1) := by decide +kernel
theorem dX0_put_69 : decode cX0_put 69 = .ok (.iastore, 1) := by decide +kernel
theorem dX0_put_70 : decode cX0_put 70 = .ok (.iconst 0, 1) := by decide +kernel
theorem dX0_put_71 : decode cX0_put 71 = .ok (.istore 5, 2) := by decide +kernel
theorem dX0_put_73 : decode cX0_put 73 = .ok (.iload 5, 2) := by decide +kernel
theorem dX0_put_75 : decode cX0_put 75 = .ok (.bipush 6, 2) := by decide +kernel
theorem dX0_put_77 : decode cX0_put 77 = .ok (.if_icmp .ge 85, 3) := by decide +kernel
theorem dX0_put_80 : decode cX0_put 80 = .ok (.iload_n 2, 1) := by decide +kernel
theorem dX0_put_81 : decode cX0_put 81 = .ok (.iload 5, 2) := by decide +kernel
theorem dX0_put_83 : decode cX0_put 83 = .ok (.invokestatic 30, 3) := by decide +kernel
theorem dX0_put_86 : decode cX0_put 86 = .ok (.ifCond .eq 70, 3) := by decide +kernel
theorem dX0_put_89 : decode cX0_put 89 = .ok (.aload_n 3, 1) := by decide +kernel
theorem dX0_put_90 : decode cX0_put 90 = .ok (.iload 5, 2) := by decide +kernel
theorem dX0_put_92 : decode cX0_put 92 = .ok (.aaload, 1) := by decide +kernel
theorem dX0_put_93 : decode cX0_put 93 = .ok (.astore 6, 2) := by decide +kernel
theorem dX0_put_95 : decode cX0_put 95 = .ok (.aload_n 0, 1) := by decide +kernel
theorem dX0_put_96 : decode cX0_put 96 = .ok (.getfield 15, 3) := by decide +kernel
theorem dX0_put_99 : decode cX0_put 99 = .ok (.iload_n 1, 1) := by decide +kernel
theorem dX0_put_100 : decode cX0_put 100 = .ok (.dup2, 1) := by decide +kernel
theorem dX0_put_101 : decode cX0_put 101 = .ok (.iaload, 1) := by decide +kernel
theorem dX0_put_102 : decode cX0_put 102 = .ok (.aload 6, 2) := by decide +kernel
theorem dX0_put_104 : decode cX0_put 104 = .ok (.getfield 34, 3) := by decide +kernel
theorem dX0_put_107 : decode cX0_put 107 = .ok (.ior, 1) := by decide +kernel
theorem dX0_put_108 : decode cX0_put 108 = .ok (.iastore, 1) := by decide +kernel
theorem dX0_put_109 : decode cX0_put 109 = .ok (.aload_n 0, 1) := by decide +kernel
theorem dX0_put_110 : decode cX0_put 110 = .ok (.getfield 18, 3) := by decide +kernel
theorem dX0_put_113 : decode cX0_put 113 = .ok (.iload_n 1, 1) := by decide +kernel
theorem dX0_put_114 : decode cX0_put 114 = .ok (.dup2, 1) := by decide +kernel
theorem dX0_put_115 : decode cX0_put 115 = .ok (.iaload, 1) := by decide +kernel
theorem dX0_put_116 : decode cX0_put 116 = .ok (.aload 6, 2) := by decide +kernel
theorem dX0_put_118 : decode cX0_put 118 = .ok (.getfield 38, 3) := by decide +kernel
theorem dX0_put_121 : decode cX0_put 121 = .ok (.ior, 1) := by decide +kernel
theorem dX0_put_122 : decode cX0_put 122 = .ok (.iastore, 1) := by decide +kernel
theorem dX0_put_123 : decode cX0_put 123 = .ok (.aload_n 0, 1) := by decide +kernel
theorem dX0_put_124 : decode cX0_put 124 = .ok (.getfield 21, 3) := by decide +kernel
theorem dX0_put_127 : decode cX0_put 127 = .ok (.iload_n 1, 1) := by decide +kernel
theorem dX0_put_128 : decode cX0_put 128 = .ok (.dup2, 1) := by decide +kernel
theorem dX0_put_129 : decode cX0_put 129 = .ok (.iaload, 1) := by decide +kernel
theorem dX0_put_130 : decode cX0_put 130 = .ok (.aload 6, 2) := by decide +kernel
theorem dX0_put_132 : decode cX0_put 132 = .ok (.getfield 24, 3) := by decide +kernel
theorem dX0_put_135 : decode cX0_put 135 = .ok (.ifCond .eq 11, 3) := by decide +kernel
theorem dX0_put_138 : decode cX0_put 138 = .ok (.aload 6, 2) := by decide +kernel
theorem dX0_put_140 : decode cX0_put 140 = .ok (.getfield 38, 3) := by decide +kernel
theorem dX0_put_143 : decode cX0_put 143 = .ok (.goto 11, 3) := by decide +kernel
theorem dX0_put_146 : decode cX0_put 146 = .ok (.aload 6, 2) := by decide +kernel
theorem dX0_put_148 : decode cX0_put 148 = .ok (.getfield 38, 3) := by decide +kernel
theorem dX0_put_151 : decode cX0_put 151 = .ok (.iload 4, 2) := by decide +kernel
theorem dX0_put_153 : decode cX0_put 153 = .ok (.iand, 1) := by decide +kernel
theorem dX0_put_154 : decode cX0_put 154 = .ok (.ior, 1) := by decide +kernel
theorem dX0_put_155 : decode cX0_put 155 = .ok (.iastore, 1) := by decide +kernel
theorem dX0_put_156 : decode cX0_put 156 = .ok (.iinc 5 1, 3) := by decide +kernel
theorem dX0_put_159 : decode cX0_put 159 = .ok (.goto (-86), 3) := by decide +kernel
theorem dX0_put_162 : decode cX0_put 162 = .ok (.return_, 1) := by decide +kernel
theorem dX0_licencesOf_0 : decode cX0_licencesOf 0 = .ok (.iload_n 1, 1) := by decide +kernel
theorem dX0_licencesOf_1 : decode cX0_licencesOf 1 = .ok (.iconst (-1), 1) := by decide +kernel
theorem dX0_licencesOf_2 : decode cX0_licencesOf 2 = .ok (.if_icmp .ne 7, 3) := by decide +kernel
theorem dX0_licencesOf_5 : decode cX0_licencesOf 5 = .ok (.iconst 0, 1) := by decide +kernel
theorem dX0_licencesOf_6 : decode cX0_licencesOf 6 = .ok (.goto 9, 3) := by decide +kernel
theorem dX0_licencesOf_9 : decode cX0_licencesOf 9 = .ok (.aload_n 0, 1) := by decide +kernel
theorem dX0_licencesOf_10 : decode cX0_licencesOf 10 = .ok (.getfield 9, 3) := by decide +kernel
theorem dX0_licencesOf_13 : decode cX0_licencesOf 13 = .ok (.iload_n 1, 1) := by decide +kernel
theorem dX0_licencesOf_14 : decode cX0_licencesOf 14 = .ok (.iaload, 1) := by decide +kernel
theorem dX0_licencesOf_15 : decode cX0_licencesOf 15 = .ok (.ireturn, 1) := by decide +kernel
theorem dX0_dutiesOf_0 : decode cX0_dutiesOf 0 = .ok (.iload_n 1, 1) := by decide +kernel
theorem dX0_dutiesOf_1 : decode cX0_dutiesOf 1 = .ok (.iconst (-1), 1) := by decide +kernel
theorem dX0_dutiesOf_2 : decode cX0_dutiesOf 2 = .ok (.if_icmp .ne 7, 3) := by decide +kernel
theorem dX0_dutiesOf_5 : decode cX0_dutiesOf 5 = .ok (.iconst 0, 1) := by decide +kernel
theorem dX0_dutiesOf_6 : decode cX0_dutiesOf 6 = .ok (.goto 9, 3) := by decide +kernel
theorem dX0_dutiesOf_9 : decode cX0_dutiesOf 9 = .ok (.aload_n 0, 1) := by decide +kernel
theorem dX0_dutiesOf_10 : decode cX0_dutiesOf 10 = .ok (.getfield 15, 3) := by decide +kernel
theorem dX0_dutiesOf_13 : decode cX0_dutiesOf 13 = .ok (.iload_n 1, 1) := by decide +kernel
theorem dX0_dutiesOf_14 : decode cX0_dutiesOf 14 = .ok (.iaload, 1) := by decide +kernel
theorem dX0_dutiesOf_15 : decode cX0_dutiesOf 15 = .ok (.ireturn, 1) := by decide +kernel
theorem dX0_isClash_0 : decode cX0_isClash 0 = .ok (.iload_n 1, 1) := by decide +kernel
theorem dX0_isClash_1 : decode cX0_isClash 1 = .ok (.iconst (-1), 1) := by decide +kernel
theorem dX0_isClash_2 : decode cX0_isClash 2 = .ok (.if_icmp .eq 8, 3) := by decide +kernel
theorem dX0_isClash_5 : decode cX0_isClash 5 = .ok (.iload_n 2, 1) := by decide +kernel
theorem dX0_isClash_6 : decode cX0_isClash 6 = .ok (.iconst (-1), 1) := by decide +kernel
theorem dX0_isClash_7 : decode cX0_isClash 7 = .ok (.if_icmp .ne 5, 3) := by decide +kernel
theorem dX0_isClash_10 : decode cX0_isClash 10 = .ok (.iconst 0, 1) := by decide +kernel
theorem dX0_isClash_11 : decode cX0_isClash 11 = .ok (.ireturn, 1) := by decide +kernel
theorem dX0_isClash_12 : decode cX0_isClash 12 = .ok (.iload_n 3, 1) := by decide +kernel
theorem dX0_isClash_13 : decode cX0_isClash 13 = .ok (.ifCond .eq 12, 3) := by decide +kernel
theorem dX0_isClash_16 : decode cX0_isClash 16 = .ok (.aload_n 0, 1) := by decide +kernel
theorem dX0_isClash_17 : decode cX0_isClash 17 = .ok (.getfield 21, 3) := by decide +kernel
theorem dX0_isClash_20 : decode cX0_isClash 20 = .ok (.iload_n 1, 1) := by decide +kernel
theorem dX0_isClash_21 : decode cX0_isClash 21 = .ok (.iaload, 1) := by decide +kernel
theorem dX0_isClash_22 : decode cX0_isClash 22 = .ok (.goto 9, 3) := by decide +kernel
theorem dX0_isClash_25 : decode cX0_isClash 25 = .ok (.aload_n 0, 1) := by decide +kernel
theorem dX0_isClash_26 : decode cX0_isClash 26 = .ok (.getfield 18, 3) := by decide +kernel
theorem dX0_isClash_29 : decode cX0_isClash 29 = .ok (.iload_n 1, 1) := by decide +kernel
theorem dX0_isClash_30 : decode cX0_isClash 30 = .ok (.iaload, 1) := by decide +kernel
theorem dX0_isClash_31 : decode cX0_isClash 31 = .ok (.istore 4, 2) := by decide +kernel
theorem dX0_isClash_33 : decode cX0_isClash 33 = .ok (.iload 4, 2) := by decide +kernel
theorem dX0_isClash_35 : decode cX0_isClash 35 = .ok (.aload_n 0, 1) := by decide +kernel
theorem dX0_isClash_36 : decode cX0_isClash 36 = .ok (.getfield 9, 3) := by decide +kernel
theorem dX0_isClash_39 : decode cX0_isClash 39 = .ok (.iload_n 2, 1) := by decide +kernel
theorem dX0_isClash_40 : decode cX0_isClash 40 = .ok (.iaload, 1) := by decide +kernel
theorem dX0_isClash_41 : decode cX0_isClash 41 = .ok (.iand, 1) := by decide +kernel
theorem dX0_isClash_42 : decode cX0_isClash 42 = .ok (.ifCond .eq 7, 3) := by decide +kernel
theorem dX0_isClash_45 : decode cX0_isClash 45 = .ok (.iconst 1, 1) := by decide +kernel
theorem dX0_isClash_46 : decode cX0_isClash 46 = .ok (.goto 4, 3) := by decide +kernel
theorem dX0_isClash_49 : decode cX0_isClash 49 = .ok (.iconst 0, 1) := by decide +kernel
theorem dX0_isClash_50 : decode cX0_isClash 50 = .ok (.ireturn, 1) := by decide +kernel
theorem dX1_init_0 : decode cX1_init 0 = .ok (.aload_n 0, 1) := by decide +kernel
theorem dX1_init_1 : decode cX1_init 1 = .ok (.invokespecial 1, 3) := by decide +kernel
theorem dX1_init_4 : decode cX1_init 4 = .ok (.aload_n 0, 1) := by decide +kernel
theorem dX1_init_5 : decode cX1_init 5 = .ok (.iconst 0, 1) := by decide +kernel
theorem dX1_init_6 : decode cX1_init 6 = .ok (.putfield 7, 3) := by decide +kernel
theorem dX1_init_9 : decode cX1_init 9 = .ok (.aload_n 0, 1) := by decide +kernel
theorem dX1_init_10 : decode cX1_init 10 = .ok (.iconst 0, 1) := by decide +kernel
theorem dX1_init_11 : decode cX1_init 11 = .ok (.putfield 13, 3) := by decide +kernel
theorem dX1_init_14 : decode cX1_init 14 = .ok (.aload_n 0, 1) := by decide +kernel
theorem dX1_init_15 : decode cX1_init 15 = .ok (.iconst 0, 1) := by decide +kernel
theorem dX1_init_16 : decode cX1_init 16 = .ok (.putfield 16, 3) := by decide +kernel
theorem dX1_init_19 : decode cX1_init 19 = .ok (.aload_n 0, 1) := by decide +kernel
theorem dX1_init_20 : decode cX1_init 20 = .ok (.iconst 0, 1) := by decide +kernel
theorem dX1_init_21 : decode cX1_init 21 = .ok (.putfield 20, 3) := by decide +kernel
theorem dX1_init_24 : decode cX1_init 24 = .ok (.aload_n 0, 1) := by decide +kernel
theorem dX1_init_25 : decode cX1_init 25 = .ok (.iconst 0, 1) := by decide +kernel
theorem dX1_init_26 : decode cX1_init 26 = .ok (.putfield 23, 3) := by decide +kernel
theorem dX1_init_29 : decode cX1_init 29 = .ok (.return_, 1) := by decide +kernel
theorem dX1_isRivalOf_0 : decode cX1_isRivalOf 0 = .ok (.aload_n 0, 1) := by decide +kernel
theorem dX1_isRivalOf_1 : decode cX1_isRivalOf 1 = .ok (.getfield 7, 3) := by decide +kernel
theorem dX1_isRivalOf_4 : decode cX1_isRivalOf 4 = .ok (.aload_n 1, 1) := by decide +kernel
theorem dX1_isRivalOf_5 : decode cX1_isRivalOf 5 = .ok (.getfield 13, 3) := by decide +kernel
theorem dX1_isRivalOf_8 : decode cX1_isRivalOf 8 = .ok (.iand, 1) := by decide +kernel
theorem dX1_isRivalOf_9 : decode cX1_isRivalOf 9 = .ok (.ifCond .ne 15, 3) := by decide +kernel
theorem dX1_isRivalOf_12 : decode cX1_isRivalOf 12 = .ok (.aload_n 1, 1) := by decide +kernel
theorem dX1_isRivalOf_13 : decode cX1_isRivalOf 13 = .ok (.getfield 7, 3) := by decide +kernel
theorem dX1_isRivalOf_16 : decode cX1_isRivalOf 16 = .ok (.aload_n 0, 1) := by decide +kernel
theorem dX1_isRivalOf_17 : decode cX1_isRivalOf 17 = .ok (.getfield 13, 3) := by decide +kernel
theorem dX1_isRivalOf_20 : decode cX1_isRivalOf 20 = .ok (.iand, 1) := by decide +kernel
theorem dX1_isRivalOf_21 : decode cX1_isRivalOf 21 = .ok (.ifCond .eq 7, 3) := by decide +kernel
theorem dX1_isRivalOf_24 : decode cX1_isRivalOf 24 = .ok (.iconst 1, 1) := by decide +kernel
theorem dX1_isRivalOf_25 : decode cX1_isRivalOf 25 = .ok (.goto 4, 3) := by decide +kernel
theorem dX1_isRivalOf_28 : decode cX1_isRivalOf 28 = .ok (.iconst 0, 1) := by decide +kernel
theorem dX1_isRivalOf_29 : decode cX1_isRivalOf 29 = .ok (.ireturn, 1) := by decide +kernel
theorem dX2_init_0 : decode cX2_init 0 = .ok (.aload_n 0, 1) := by decide +kernel
theorem dX2_init_1 : decode cX2_init 1 = .ok (.invokespecial 3, 3) := by decide +kernel
theorem dX2_init_4 : decode cX2_init 4 = .ok (.aload_n 0, 1) := by decide +kernel
theorem dX2_init_5 : decode cX2_init 5 = .ok (.new 9, 3) := by decide +kernel
theorem dX2_init_8 : decode cX2_init 8 = .ok (.dup, 1) := by decide +kernel
theorem dX2_init_9 : decode cX2_init 9 = .ok (.invokespecial 11, 3) := by decide +kernel
theorem dX2_init_12 : decode cX2_init 12 = .ok (.putfield 12, 3) := by decide +kernel
theorem dX2_init_15 : decode cX2_init 15 = .ok (.aload_n 0, 1) := by decide +kernel
theorem dX2_init_16 : decode cX2_init 16 = .ok (.iconst (-1), 1) := by decide +kernel
theorem dX2_init_17 : decode cX2_init 17 = .ok (.putfield 18, 3) := by decide +kernel
theorem dX2_init_20 : decode cX2_init 20 = .ok (.aload_n 0, 1) := by decide +kernel
theorem dX2_init_21 : decode cX2_init 21 = .ok (.iconst 0, 1) := by decide +kernel
theorem dX2_init_22 : decode cX2_init 22 = .ok (.putfield 22, 3) := by decide +kernel
theorem dX2_init_25 : decode cX2_init 25 = .ok (.return_, 1) := by decide +kernel
theorem dX3_init_0 : decode cX3_init 0 = .ok (.aload_n 0, 1) := by decide +kernel
theorem dX3_init_1 : decode cX3_init 1 = .ok (.invokespecial 3, 3) := by decide +kernel
theorem dX3_init_4 : decode cX3_init 4 = .ok (.aload_n 0, 1) := by decide +kernel
theorem dX3_init_5 : decode cX3_init 5 = .ok (.bipush 10, 2) := by decide +kernel
theorem dX3_init_7 : decode cX3_init 7 = .ok (.newarray .int, 2) := by decide +kernel
theorem dX3_init_9 : decode cX3_init 9 = .ok (.putfield 9, 3) := by decide +kernel
theorem dX3_init_12 : decode cX3_init 12 = .ok (.aload_n 0, 1) := by decide +kernel
theorem dX3_init_13 : decode cX3_init 13 = .ok (.bipush 10, 2) := by decide +kernel
theorem dX3_init_15 : decode cX3_init 15 = .ok (.newarray .int, 2) := by decide +kernel
theorem dX3_init_17 : decode cX3_init 17 = .ok (.putfield 15, 3) := by decide +kernel
theorem dX3_init_20 : decode cX3_init 20 = .ok (.aload_n 0, 1) := by decide +kernel
theorem dX3_init_21 : decode cX3_init 21 = .ok (.bipush 10, 2) := by decide +kernel
theorem dX3_init_23 : decode cX3_init 23 = .ok (.newarray .int, 2) := by decide +kernel
theorem dX3_init_25 : decode cX3_init 25 = .ok (.putfield 18, 3) := by decide +kernel
theorem dX3_init_28 : decode cX3_init 28 = .ok (.aload_n 0, 1) := by decide +kernel
theorem dX3_init_29 : decode cX3_init 29 = .ok (.bipush 10, 2) := by decide +kernel
theorem dX3_init_31 : decode cX3_init 31 = .ok (.newarray .int, 2) := by decide +kernel
theorem dX3_init_33 : decode cX3_init 33 = .ok (.putfield 21, 3) := by decide +kernel
theorem dX3_init_36 : decode cX3_init 36 = .ok (.aload_n 0, 1) := by decide +kernel
theorem dX3_init_37 : decode cX3_init 37 = .ok (.iconst 1, 1) := by decide +kernel
theorem dX3_init_38 : decode cX3_init 38 = .ok (.putfield 24, 3) := by decide +kernel
theorem dX3_init_41 : decode cX3_init 41 = .ok (.aload_n 0, 1) := by decide +kernel
theorem dX3_init_42 : decode cX3_init 42 = .ok (.iconst 0, 1) := by decide +kernel
theorem dX3_init_43 : decode cX3_init 43 = .ok (.putfield 28, 3) := by decide +kernel
theorem dX3_init_46 : decode cX3_init 46 = .ok (.aload_n 0, 1) := by decide +kernel
theorem dX3_init_47 : decode cX3_init 47 = .ok (.iconst 0, 1) := by decide +kernel
theorem dX3_init_48 : decode cX3_init 48 = .ok (.putfield 31, 3) := by decide +kernel
theorem dX3_init_51 : decode cX3_init 51 = .ok (.aload_n 0, 1) := by decide +kernel
theorem dX3_init_52 : decode cX3_init 52 = .ok (.iconst 0, 1) := by decide +kernel
theorem dX3_init_53 : decode cX3_init 53 = .ok (.putfield 34, 3) := by decide +kernel
theorem dX3_init_56 : decode cX3_init 56 = .ok (.aload_n 0, 1) := by decide +kernel
theorem dX3_init_57 : decode cX3_init 57 = .ok (.getfield 9, 3) := by decide +kernel
theorem dX3_init_60 : decode cX3_init 60 = .ok (.iconst 0, 1) := by decide +kernel
theorem dX3_init_61 : decode cX3_init 61 = .ok (.iconst (-1), 1) := by decide +kernel
theorem dX3_init_62 : decode cX3_init 62 = .ok (.iastore, 1) := by decide +kernel
theorem dX3_init_63 : decode cX3_init 63 = .ok (.aload_n 0, 1) := by decide +kernel
theorem dX3_init_64 : decode cX3_init 64 = .ok (.getfield 18, 3) := by decide +kernel
theorem dX3_init_67 : decode cX3_init 67 = .ok (.iconst 0, 1) := by decide +kernel
theorem dX3_init_68 : decode cX3_init 68 = .ok (.iconst (-1), 1) := by decide +kernel
theorem dX3_init_69 : decode cX3_init 69 = .ok (.iastore, 1) := by decide +kernel
theorem dX3_init_70 : decode cX3_init 70 = .ok (.return_, 1) := by decide +kernel
theorem dX3_hasNode_0 : decode cX3_hasNode 0 = .ok (.iload_n 1, 1) := by decide +kernel
theorem dX3_hasNode_1 : decode cX3_hasNode 1 = .ok (.ifCond .lt 24, 3) := by decide +kernel
theorem dX3_hasNode_4 : decode cX3_hasNode 4 = .ok (.iload_n 1, 1) := by decide +kernel
theorem dX3_hasNode_5 : decode cX3_hasNode 5 = .ok (.bipush 10, 2) := by decide +kernel
theorem dX3_hasNode_7 : decode cX3_hasNode 7 = .ok (.if_icmp .ge 18, 3) := by decide +kernel
theorem dX3_hasNode_10 : decode cX3_hasNode 10 = .ok (.aload_n 0, 1) := by decide +kernel
theorem dX3_hasNode_11 : decode cX3_hasNode 11 = .ok (.getfield 24, 3) := by decide +kernel
theorem dX3_hasNode_14 : decode cX3_hasNode 14 = .ok (.iload_n 1, 1) := by decide +kernel
theorem dX3_hasNode_15 : decode cX3_hasNode 15 = .ok (.invokestatic 37, 3) := by decide +kernel
theorem dX3_hasNode_18 : decode cX3_hasNode 18 = .ok (.ifCond .eq 7, 3) := by decide +kernel
theorem dX3_hasNode_21 : decode cX3_hasNode 21 = .ok (.iconst 1, 1) := by decide +kernel
theorem dX3_hasNode_22 : decode cX3_hasNode 22 = .ok (.goto 4, 3) := by decide +kernel
theorem dX3_hasNode_25 : decode cX3_hasNode 25 = .ok (.iconst 0, 1) := by decide +kernel
theorem dX3_hasNode_26 : decode cX3_hasNode 26 = .ok (.ireturn, 1) := by decide +kernel
theorem dX3_firstFreeNode_0 : decode cX3_firstFreeNode 0 = .ok (.iconst 0, 1) := by decide +kernel
theorem dX3_firstFreeNode_1 : decode cX3_firstFreeNode 1 = .ok (.istore_n 1, 1) := by decide +kernel
theorem dX3_firstFreeNode_2 : decode cX3_firstFreeNode 2 = .ok (.iload_n 1, 1) := by decide +kernel
theorem dX3_firstFreeNode_3 : decode cX3_firstFreeNode 3 = .ok (.bipush 10, 2) := by decide +kernel
theorem dX3_firstFreeNode_5 : decode cX3_firstFreeNode 5 = .ok (.if_icmp .ge 22, 3) := by decide +kernel
theorem dX3_firstFreeNode_8 : decode cX3_firstFreeNode 8 = .ok (.aload_n 0, 1) := by decide +kernel
theorem dX3_firstFreeNode_9 : decode cX3_firstFreeNode 9 = .ok (.getfield 24, 3) := by decide +kernel
theorem dX3_firstFreeNode_12 : decode cX3_firstFreeNode 12 = .ok (.iload_n 1, 1) := by decide +kernel
theorem dX3_firstFreeNode_13 : decode cX3_firstFreeNode 13 = .ok (.invokestatic 37, 3) := by decide +kernel
theorem dX3_firstFreeNode_16 : decode cX3_firstFreeNode 16 = .ok (.ifCond .ne 5, 3) := by decide +kernel
theorem dX3_firstFreeNode_19 : decode cX3_firstFreeNode 19 = .ok (.iload_n 1, 1) := by decide +kernel
theorem dX3_firstFreeNode_20 : decode cX3_firstFreeNode 20 = .ok (.ireturn, 1) := by decide +kernel
theorem dX3_firstFreeNode_21 : decode cX3_firstFreeNode 21 = .ok (.iinc 1 1, 3) := by decide +kernel
theorem dX3_firstFreeNode_24 : decode cX3_firstFreeNode 24 = .ok (.goto (-22), 3) := by decide +kernel
theorem dX3_firstFreeNode_27 : decode cX3_firstFreeNode 27 = .ok (.iconst (-1), 1) := by decide +kernel
theorem dX3_firstFreeNode_28 : decode cX3_firstFreeNode 28 = .ok (.ireturn, 1) := by decide +kernel
theorem dX3_grow_0 : decode cX3_grow 0 = .ok (.aload_n 0, 1) := by decide +kernel
theorem dX3_grow_1 : decode cX3_grow 1 = .ok (.dup, 1) := by decide +kernel
theorem dX3_grow_2 : decode cX3_grow 2 = .ok (.getfield 24, 3) := by decide +kernel
theorem dX3_grow_5 : decode cX3_grow 5 = .ok (.iconst 1, 1) := by decide +kernel
theorem dX3_grow_6 : decode cX3_grow 6 = .ok (.iload_n 1, 1) := by decide +kernel
theorem dX3_grow_7 : decode cX3_grow 7 = .ok (.ishl, 1) := by decide +kernel
theorem dX3_grow_8 : decode cX3_grow 8 = .ok (.ior, 1) := by decide +kernel
theorem dX3_grow_9 : decode cX3_grow 9 = .ok (.putfield 24, 3) := by decide +kernel
theorem dX3_grow_12 : decode cX3_grow 12 = .ok (.aload_n 0, 1) := by decide +kernel
theorem dX3_grow_13 : decode cX3_grow 13 = .ok (.getfield 9, 3) := by decide +kernel
theorem dX3_grow_16 : decode cX3_grow 16 = .ok (.iload_n 1, 1) := by decide +kernel
theorem dX3_grow_17 : decode cX3_grow 17 = .ok (.iload_n 2, 1) := by decide +kernel
theorem dX3_grow_18 : decode cX3_grow 18 = .ok (.iastore, 1) := by decide +kernel
theorem dX3_grow_19 : decode cX3_grow 19 = .ok (.aload_n 0, 1) := by decide +kernel
theorem dX3_grow_20 : decode cX3_grow 20 = .ok (.getfield 15, 3) := by decide +kernel
theorem dX3_grow_23 : decode cX3_grow 23 = .ok (.iload_n 1, 1) := by decide +kernel
theorem dX3_grow_24 : decode cX3_grow 24 = .ok (.aload_n 0, 1) := by decide +kernel
theorem dX3_grow_25 : decode cX3_grow 25 = .ok (.getfield 15, 3) := by decide +kernel
theorem dX3_grow_28 : decode cX3_grow 28 = .ok (.iload_n 2, 1) := by decide +kernel
theorem dX3_grow_29 : decode cX3_grow 29 = .ok (.iaload, 1) := by decide +kernel
theorem dX3_grow_30 : decode cX3_grow 30 = .ok (.iconst 1, 1) := by decide +kernel
theorem dX3_grow_31 : decode cX3_grow 31 = .ok (.iload_n 2, 1) := by decide +kernel
theorem dX3_grow_32 : decode cX3_grow 32 = .ok (.ishl, 1) := by decide +kernel
theorem dX3_grow_33 : decode cX3_grow 33 = .ok (.ior, 1) := by decide +kernel
theorem dX3_grow_34 : decode cX3_grow 34 = .ok (.iastore, 1) := by decide +kernel
theorem dX3_grow_35 : decode cX3_grow 35 = .ok (.aload_n 0, 1) := by decide +kernel
theorem dX3_grow_36 : decode cX3_grow 36 = .ok (.getfield 18, 3) := by decide +kernel
theorem dX3_grow_39 : decode cX3_grow 39 = .ok (.iload_n 1, 1) := by decide +kernel
theorem dX3_grow_40 : decode cX3_grow 40 = .ok (.iload_n 3, 1) := by decide +kernel
theorem dX3_grow_41 : decode cX3_grow 41 = .ok (.iastore, 1) := by decide +kernel
theorem dX3_grow_42 : decode cX3_grow 42 = .ok (.return_, 1) := by decide +kernel
theorem dX3_usesOf_0 : decode cX3_usesOf 0 = .ok (.iconst 0, 1) := by decide +kernel
theorem dX3_usesOf_1 : decode cX3_usesOf 1 = .ok (.istore_n 2, 1) := by decide +kernel
theorem dX3_usesOf_2 : decode cX3_usesOf 2 = .ok (.iconst 0, 1) := by decide +kernel
theorem dX3_usesOf_3 : decode cX3_usesOf 3 = .ok (.istore_n 3, 1) := by decide +kernel
theorem dX3_usesOf_4 : decode cX3_usesOf 4 = .ok (.iload_n 3, 1) := by decide +kernel
theorem dX3_usesOf_5 : decode cX3_usesOf 5 = .ok (.bipush 10, 2) := by decide +kernel
theorem dX3_usesOf_7 : decode cX3_usesOf 7 = .ok (.if_icmp .ge 33, 3) := by decide +kernel
theorem dX3_usesOf_10 : decode cX3_usesOf 10 = .ok (.aload_n 0, 1) := by decide +kernel
theorem dX3_usesOf_11 : decode cX3_usesOf 11 = .ok (.getfield 24, 3) := by decide +kernel
theorem dX3_usesOf_14 : decode cX3_usesOf 14 = .ok (.iload_n 3, 1) := by decide +kernel
theorem dX3_usesOf_15 : decode cX3_usesOf 15 = .ok (.invokestatic 37, 3) := by decide +kernel
theorem dX3_usesOf_18 : decode cX3_usesOf 18 = .ok (.ifCond .eq 16, 3) := by decide +kernel
theorem dX3_usesOf_21 : decode cX3_usesOf 21 = .ok (.aload_n 0, 1) := by decide +kernel
theorem dX3_usesOf_22 : decode cX3_usesOf 22 = .ok (.getfield 18, 3) := by decide +kernel
theorem dX3_usesOf_25 : decode cX3_usesOf 25 = .ok (.iload_n 3, 1) := by decide +kernel
theorem dX3_usesOf_26 : decode cX3_usesOf 26 = .ok (.iaload, 1) := by decide +kernel
theorem dX3_usesOf_27 : decode cX3_usesOf 27 = .ok (.iload_n 1, 1) := by decide +kernel
theorem dX3_usesOf_28 : decode cX3_usesOf 28 = .ok (.if_icmp .ne 6, 3) := by decide +kernel
theorem dX3_usesOf_31 : decode cX3_usesOf 31 = .ok (.iinc 2 1, 3) := by decide +kernel
theorem dX3_usesOf_34 : decode cX3_usesOf 34 = .ok (.iinc 3 1, 3) := by decide +kernel
theorem dX3_usesOf_37 : decode cX3_usesOf 37 = .ok (.goto (-33), 3) := by decide +kernel
theorem dX3_usesOf_40 : decode cX3_usesOf 40 = .ok (.iload_n 2, 1) := by decide +kernel
theorem dX3_usesOf_41 : decode cX3_usesOf 41 = .ok (.ireturn, 1) := by decide +kernel
theorem dX3_clashesOf_0 : decode cX3_clashesOf 0 = .ok (.iconst 0, 1) := by decide +kernel
theorem dX3_clashesOf_1 : decode cX3_clashesOf 1 = .ok (.istore 4, 2) := by decide +kernel
theorem dX3_clashesOf_3 : decode cX3_clashesOf 3 = .ok (.iconst 0, 1) := by decide +kernel
theorem dX3_clashesOf_4 : decode cX3_clashesOf 4 = .ok (.istore 5, 2) := by decide +kernel
theorem dX3_clashesOf_6 : decode cX3_clashesOf 6 = .ok (.iload 5, 2) := by decide +kernel
theorem dX3_clashesOf_8 : decode cX3_clashesOf 8 = .ok (.bipush 10, 2) := by decide +kernel
theorem dX3_clashesOf_10 : decode cX3_clashesOf 10 = .ok (.if_icmp .ge 66, 3) := by decide +kernel
theorem dX3_clashesOf_13 : decode cX3_clashesOf 13 = .ok (.aload_n 0, 1) := by decide +kernel
theorem dX3_clashesOf_14 : decode cX3_clashesOf 14 = .ok (.getfield 24, 3) := by decide +kernel
theorem dX3_clashesOf_17 : decode cX3_clashesOf 17 = .ok (.iload 5, 2) := by decide +kernel
theorem dX3_clashesOf_19 : decode cX3_clashesOf 19 = .ok (.invokestatic 37, 3) := by decide +kernel
theorem dX3_clashesOf_22 : decode cX3_clashesOf 22 = .ok (.ifCond .eq 48, 3) := by decide +kernel
theorem dX3_clashesOf_25 : decode cX3_clashesOf 25 = .ok (.iload 5, 2) := by decide +kernel
theorem dX3_clashesOf_27 : decode cX3_clashesOf 27 = .ok (.iload_n 1, 1) := by decide +kernel
theorem dX3_clashesOf_28 : decode cX3_clashesOf 28 = .ok (.if_icmp .ne 7, 3) := by decide +kernel
theorem dX3_clashesOf_31 : decode cX3_clashesOf 31 = .ok (.iload_n 2, 1) := by decide +kernel
theorem dX3_clashesOf_32 : decode cX3_clashesOf 32 = .ok (.goto 10, 3) := by decide +kernel
theorem dX3_clashesOf_35 : decode cX3_clashesOf 35 = .ok (.aload_n 0, 1) := by decide +kernel
theorem dX3_clashesOf_36 : decode cX3_clashesOf 36 = .ok (.getfield 18, 3) := by decide +kernel
theorem dX3_clashesOf_39 : decode cX3_clashesOf 39 = .ok (.iload 5, 2) := by decide +kernel
theorem dX3_clashesOf_41 : decode cX3_clashesOf 41 = .ok (.iaload, 1) := by decide +kernel
theorem dX3_clashesOf_42 : decode cX3_clashesOf 42 = .ok (.istore 6, 2) := by decide +kernel
theorem dX3_clashesOf_44 : decode cX3_clashesOf 44 = .ok (.aload_n 3, 1) := by decide +kernel
theorem dX3_clashesOf_45 : decode cX3_clashesOf 45 = .ok (.iload_n 2, 1) := by decide +kernel
theorem dX3_clashesOf_46 : decode cX3_clashesOf 46 = .ok (.iload 6, 2) := by decide +kernel
theorem dX3_clashesOf_48 : decode cX3_clashesOf 48 = .ok (.aload_n 0, 1) := by decide +kernel
theorem dX3_clashesOf_49 : decode cX3_clashesOf 49 = .ok (.iload_n 1, 1) := by decide +kernel
theorem dX3_clashesOf_50 : decode cX3_clashesOf 50 = .ok (.iload 5, 2) := by decide +kernel
theorem dX3_clashesOf_52 : decode cX3_clashesOf 52 = .ok (.invokevirtual 41, 3) := by decide +kernel
theorem dX3_clashesOf_55 : decode cX3_clashesOf 55 = .ok (.invokevirtual 44, 3) := by decide +kernel
theorem dX3_clashesOf_58 : decode cX3_clashesOf 58 = .ok (.ifCond .eq 12, 3) := by decide +kernel
theorem dX3_clashesOf_61 : decode cX3_clashesOf 61 = .ok (.iload 4, 2) := by decide +kernel
theorem dX3_clashesOf_63 : decode cX3_clashesOf 63 = .ok (.iconst 1, 1) := by decide +kernel
theorem dX3_clashesOf_64 : decode cX3_clashesOf 64 = .ok (.iload 5, 2) := by decide +kernel
theorem dX3_clashesOf_66 : decode cX3_clashesOf 66 = .ok (.ishl, 1) := by decide +kernel
theorem dX3_clashesOf_67 : decode cX3_clashesOf 67 = .ok (.ior, 1) := by decide +kernel
theorem dX3_clashesOf_68 : decode cX3_clashesOf 68 = .ok (.istore 4, 2) := by decide +kernel
theorem dX3_clashesOf_70 : decode cX3_clashesOf 70 = .ok (.iinc 5 1, 3) := by decide +kernel
theorem dX3_clashesOf_73 : decode cX3_clashesOf 73 = .ok (.goto (-67), 3) := by decide +kernel
theorem dX3_clashesOf_76 : decode cX3_clashesOf 76 = .ok (.iload 4, 2) := by decide +kernel
theorem dX3_clashesOf_78 : decode cX3_clashesOf 78 = .ok (.ireturn, 1) := by decide +kernel
theorem dX3_isFar_0 : decode cX3_isFar 0 = .ok (.iload_n 1, 1) := by decide +kernel
theorem dX3_isFar_1 : decode cX3_isFar 1 = .ok (.iload_n 2, 1) := by decide +kernel
theorem dX3_isFar_2 : decode cX3_isFar 2 = .ok (.if_icmp .eq 29, 3) := by decide +kernel
theorem dX3_isFar_5 : decode cX3_isFar 5 = .ok (.aload_n 0, 1) := by decide +kernel
theorem dX3_isFar_6 : decode cX3_isFar 6 = .ok (.getfield 15, 3) := by decide +kernel
theorem dX3_isFar_9 : decode cX3_isFar 9 = .ok (.iload_n 1, 1) := by decide +kernel
theorem dX3_isFar_10 : decode cX3_isFar 10 = .ok (.iaload, 1) := by decide +kernel
theorem dX3_isFar_11 : decode cX3_isFar 11 = .ok (.iload_n 2, 1) := by decide +kernel
theorem dX3_isFar_12 : decode cX3_isFar 12 = .ok (.ishr, 1) := by decide +kernel
theorem dX3_isFar_13 : decode cX3_isFar 13 = .ok (.aload_n 0, 1) := by decide +kernel
theorem dX3_isFar_14 : decode cX3_isFar 14 = .ok (.getfield 15, 3) := by decide +kernel
theorem dX3_isFar_17 : decode cX3_isFar 17 = .ok (.iload_n 2, 1) := by decide +kernel
theorem dX3_isFar_18 : decode cX3_isFar 18 = .ok (.iaload, 1) := by decide +kernel
theorem dX3_isFar_19 : decode cX3_isFar 19 = .ok (.iload_n 1, 1) := by decide +kernel
theorem dX3_isFar_20 : decode cX3_isFar 20 = .ok (.ishr, 1) := by decide +kernel
theorem dX3_isFar_21 : decode cX3_isFar 21 = .ok (.ior, 1) := by decide +kernel
theorem dX3_isFar_22 : decode cX3_isFar 22 = .ok (.iconst 1, 1) := by decide +kernel
theorem dX3_isFar_23 : decode cX3_isFar 23 = .ok (.iand, 1) := by decide +kernel
theorem dX3_isFar_24 : decode cX3_isFar 24 = .ok (.ifCond .ne 7, 3) := by decide +kernel
theorem dX3_isFar_27 : decode cX3_isFar 27 = .ok (.iconst 1, 1) := by decide +kernel
theorem dX3_isFar_28 : decode cX3_isFar 28 = .ok (.goto 4, 3) := by decide +kernel
theorem dX3_isFar_31 : decode cX3_isFar 31 = .ok (.iconst 0, 1) := by decide +kernel
theorem dX3_isFar_32 : decode cX3_isFar 32 = .ok (.ireturn, 1) := by decide +kernel
theorem dX3_countClashes_0 : decode cX3_countClashes 0 = .ok (.iconst 0, 1) := by decide +kernel
theorem dX3_countClashes_1 : decode cX3_countClashes 1 = .ok (.istore_n 2, 1) := by decide +kernel
theorem dX3_countClashes_2 : decode cX3_countClashes 2 = .ok (.iconst 0, 1) := by decide +kernel
theorem dX3_countClashes_3 : decode cX3_countClashes 3 = .ok (.istore_n 3, 1) := by decide +kernel
theorem dX3_countClashes_4 : decode cX3_countClashes 4 = .ok (.iload_n 3, 1) := by decide +kernel
theorem dX3_countClashes_5 : decode cX3_countClashes 5 = .ok (.bipush 10, 2) := by decide +kernel
theorem dX3_countClashes_7 : decode cX3_countClashes 7 = .ok (.if_icmp .ge 48, 3) := by decide +kernel
theorem dX3_countClashes_10 : decode cX3_countClashes 10 = .ok (.aload_n 0, 1) := by decide +kernel
theorem dX3_countClashes_11 : decode cX3_countClashes 11 = .ok (.getfield 24, 3) := by decide +kernel
theorem dX3_countClashes_14 : decode cX3_countClashes 14 = .ok (.iload_n 3, 1) := by decide +kernel
theorem dX3_countClashes_15 : decode cX3_countClashes 15 = .ok (.invokestatic 37, 3) := by decide +kernel
theorem dX3_countClashes_18 : decode cX3_countClashes 18 = .ok (.ifCond .eq 31, 3) := by decide +kernel
theorem dX3_countClashes_21 : decode cX3_countClashes 21 = .ok (.iconst 2, 1) := by decide +kernel
theorem dX3_countClashes_22 : decode cX3_countClashes 22 = .ok (.iload_n 3, 1) := by decide +kernel
theorem dX3_countClashes_23 : decode cX3_countClashes 23 = .ok (.ishl, 1) := by decide +kernel
theorem dX3_countClashes_24 : decode cX3_countClashes 24 = .ok (.iconst 1, 1) := by decide +kernel
theorem dX3_countClashes_25 : decode cX3_countClashes 25 = .ok (.isub, 1) := by decide +kernel
theorem dX3_countClashes_26 : decode cX3_countClashes 26 = .ok (.istore 4, 2) := by decide +kernel
theorem dX3_countClashes_28 : decode cX3_countClashes 28 = .ok (.iload_n 2, 1) := by decide +kernel
theorem dX3_countClashes_29 : decode cX3_countClashes 29 = .ok (.aload_n 0, 1) := by decide +kernel
theorem dX3_countClashes_30 : decode cX3_countClashes 30 = .ok (.iload_n 3, 1) := by decide +kernel
theorem dX3_countClashes_31 : decode cX3_countClashes 31 = .ok (.aload_n 0, 1) := by decide +kernel
theorem dX3_countClashes_32 : decode cX3_countClashes 32 = .ok (.getfield 18, 3) := by decide +kernel
theorem dX3_countClashes_35 : decode cX3_countClashes 35 = .ok (.iload_n 3, 1) := by decide +kernel
theorem dX3_countClashes_36 : decode cX3_countClashes 36 = .ok (.iaload, 1) := by decide +kernel
theorem dX3_countClashes_37 : decode cX3_countClashes 37 = .ok (.aload_n 1, 1) := by decide +kernel
theorem dX3_countClashes_38 : decode cX3_countClashes 38 = .ok (.invokevirtual 50, 3) := by decide +kernel
theorem dX3_countClashes_41 : decode cX3_countClashes 41 = .ok (.iload 4, 2) := by decide +kernel
theorem dX3_countClashes_43 : decode cX3_countClashes 43 = .ok (.iand, 1) := by decide +kernel
theorem dX3_countClashes_44 : decode cX3_countClashes 44 = .ok (.invokestatic 54, 3) := by decide +kernel
theorem dX3_countClashes_47 : decode cX3_countClashes 47 = .ok (.iadd, 1) := by decide +kernel
theorem dX3_countClashes_48 : decode cX3_countClashes 48 = .ok (.istore_n 2, 1) := by decide +kernel
theorem dX3_countClashes_49 : decode cX3_countClashes 49 = .ok (.iinc 3 1, 3) := by decide +kernel
theorem dX3_countClashes_52 : decode cX3_countClashes 52 = .ok (.goto (-48), 3) := by decide +kernel
theorem dX3_countClashes_55 : decode cX3_countClashes 55 = .ok (.iload_n 2, 1) := by decide +kernel
theorem dX3_countClashes_56 : decode cX3_countClashes 56 = .ok (.ireturn, 1) := by decide +kernel
theorem dX3_duties_0 : decode cX3_duties 0 = .ok (.iconst 0, 1) := by decide +kernel
theorem dX3_duties_1 : decode cX3_duties 1 = .ok (.istore_n 2, 1) := by decide +kernel
theorem dX3_duties_2 : decode cX3_duties 2 = .ok (.iconst 0, 1) := by decide +kernel
theorem dX3_duties_3 : decode cX3_duties 3 = .ok (.istore_n 3, 1) := by decide +kernel
theorem dX3_duties_4 : decode cX3_duties 4 = .ok (.iload_n 3, 1) := by decide +kernel
theorem dX3_duties_5 : decode cX3_duties 5 = .ok (.bipush 10, 2) := by decide +kernel
theorem dX3_duties_7 : decode cX3_duties 7 = .ok (.if_icmp .ge 33, 3) := by decide +kernel
theorem dX3_duties_10 : decode cX3_duties 10 = .ok (.aload_n 0, 1) := by decide +kernel
theorem dX3_duties_11 : decode cX3_duties 11 = .ok (.getfield 24, 3) := by decide +kernel
theorem dX3_duties_14 : decode cX3_duties 14 = .ok (.iload_n 3, 1) := by decide +kernel
theorem dX3_duties_15 : decode cX3_duties 15 = .ok (.invokestatic 37, 3) := by decide +kernel
theorem dX3_duties_18 : decode cX3_duties 18 = .ok (.ifCond .eq 16, 3) := by decide +kernel
theorem dX3_duties_21 : decode cX3_duties 21 = .ok (.iload_n 2, 1) := by decide +kernel
theorem dX3_duties_22 : decode cX3_duties 22 = .ok (.aload_n 1, 1) := by decide +kernel
theorem dX3_duties_23 : decode cX3_duties 23 = .ok (.aload_n 0, 1) := by decide +kernel
theorem dX3_duties_24 : decode cX3_duties 24 = .ok (.getfield 18, 3) := by decide +kernel
theorem dX3_duties_27 : decode cX3_duties 27 = .ok (.iload_n 3, 1) := by decide +kernel
theorem dX3_duties_28 : decode cX3_duties 28 = .ok (.iaload, 1) := by decide +kernel
theorem dX3_duties_29 : decode cX3_duties 29 = .ok (.invokevirtual 60, 3) := by decide +kernel
theorem dX3_duties_32 : decode cX3_duties 32 = .ok (.ior, 1) := by decide +kernel
theorem dX3_duties_33 : decode cX3_duties 33 = .ok (.istore_n 2, 1) := by decide +kernel
theorem dX3_duties_34 : decode cX3_duties 34 = .ok (.iinc 3 1, 3) := by decide +kernel
theorem dX3_duties_37 : decode cX3_duties 37 = .ok (.goto (-33), 3) := by decide +kernel
theorem dX3_duties_40 : decode cX3_duties 40 = .ok (.iload_n 2, 1) := by decide +kernel
theorem dX3_duties_41 : decode cX3_duties 41 = .ok (.aload_n 0, 1) := by decide +kernel
theorem dX3_duties_42 : decode cX3_duties 42 = .ok (.getfield 28, 3) := by decide +kernel
theorem dX3_duties_45 : decode cX3_duties 45 = .ok (.iconst (-1), 1) := by decide +kernel
theorem dX3_duties_46 : decode cX3_duties 46 = .ok (.ixor, 1) := by decide +kernel
theorem dX3_duties_47 : decode cX3_duties 47 = .ok (.iand, 1) := by decide +kernel
theorem dX3_duties_48 : decode cX3_duties 48 = .ok (.ireturn, 1) := by decide +kernel
theorem dX3_isInOrder_0 : decode cX3_isInOrder 0 = .ok (.aload_n 0, 1) := by decide +kernel
theorem dX3_isInOrder_1 : decode cX3_isInOrder 1 = .ok (.aload_n 1, 1) := by decide +kernel
theorem dX3_isInOrder_2 : decode cX3_isInOrder 2 = .ok (.invokevirtual 63, 3) := by decide +kernel
theorem dX3_isInOrder_5 : decode cX3_isInOrder 5 = .ok (.ifCond .ne 15, 3) := by decide +kernel
theorem dX3_isInOrder_8 : decode cX3_isInOrder 8 = .ok (.aload_n 0, 1) := by decide +kernel
theorem dX3_isInOrder_9 : decode cX3_isInOrder 9 = .ok (.aload_n 1, 1) := by decide +kernel
theorem dX3_isInOrder_10 : decode cX3_isInOrder 10 = .ok (.invokevirtual 67, 3) := by decide +kernel
theorem dX3_isInOrder_13 : decode cX3_isInOrder 13 = .ok (.ifCond .ne 7, 3) := by decide +kernel
theorem dX3_isInOrder_16 : decode cX3_isInOrder 16 = .ok (.iconst 1, 1) := by decide +kernel
theorem dX3_isInOrder_17 : decode cX3_isInOrder 17 = .ok (.goto 4, 3) := by decide +kernel
theorem dX3_isInOrder_20 : decode cX3_isInOrder 20 = .ok (.iconst 0, 1) := by decide +kernel
theorem dX3_isInOrder_21 : decode cX3_isInOrder 21 = .ok (.ireturn, 1) := by decide +kernel
theorem dX3_isRecalledUnder_0 : decode cX3_isRecalledUnder 0 = .ok (.aload_n 0, 1) := by decide +kernel
theorem dX3_isRecalledUnder_1 : decode cX3_isRecalledUnder 1 = .ok (.getfield 31, 3) := by decide +kernel
theorem dX3_isRecalledUnder_4 : decode cX3_isRecalledUnder 4 = .ok (.iconst 1, 1) := by decide +kernel
theorem dX3_isRecalledUnder_5 : decode cX3_isRecalledUnder 5 = .ok (.if_icmp .ne 15, 3) := by decide +kernel
theorem dX3_isRecalledUnder_8 : decode cX3_isRecalledUnder 8 = .ok (.aload_n 0, 1) := by decide +kernel
theorem dX3_isRecalledUnder_9 : decode cX3_isRecalledUnder 9 = .ok (.aload_n 1, 1) := by decide +kernel
theorem dX3_isRecalledUnder_10 : decode cX3_isRecalledUnder 10 = .ok (.invokevirtual 70, 3) := by decide +kernel
theorem dX3_isRecalledUnder_13 : decode cX3_isRecalledUnder 13 = .ok (.ifCond .ne 7, 3) := by decide +kernel
theorem dX3_isRecalledUnder_16 : decode cX3_isRecalledUnder 16 = .ok (.iconst 1, 1) := by decide +kernel
theorem dX3_isRecalledUnder_17 : decode cX3_isRecalledUnder 17 = .ok (.goto 4, 3) := by decide +kernel
theorem dX3_isRecalledUnder_20 : decode cX3_isRecalledUnder 20 = .ok (.iconst 0, 1) := by decide +kernel
theorem dX3_isRecalledUnder_21 : decode cX3_isRecalledUnder 21 = .ok (.ireturn, 1) := by decide +kernel
theorem dX3_fewestToEmpty_0 : decode cX3_fewestToEmpty 0 = .ok (.aload_n 0, 1) := by decide +kernel
theorem dX3_fewestToEmpty_1 : decode cX3_fewestToEmpty 1 = .ok (.aload_n 1, 1) := by decide +kernel
theorem dX3_fewestToEmpty_2 : decode cX3_fewestToEmpty 2 = .ok (.invokevirtual 74, 3) := by decide +kernel
theorem dX3_fewestToEmpty_5 : decode cX3_fewestToEmpty 5 = .ok (.istore_n 2, 1) := by decide +kernel
theorem dX3_fewestToEmpty_6 : decode cX3_fewestToEmpty 6 = .ok (.iload_n 2, 1) := by decide +kernel
theorem dX3_fewestToEmpty_7 : decode cX3_fewestToEmpty 7 = .ok (.istore_n 3, 1) := by decide +kernel
theorem dX3_fewestToEmpty_8 : decode cX3_fewestToEmpty 8 = .ok (.iconst 0, 1) := by decide +kernel
theorem dX3_fewestToEmpty_9 : decode cX3_fewestToEmpty 9 = .ok (.istore 4, 2) := by decide +kernel
theorem dX3_fewestToEmpty_11 : decode cX3_fewestToEmpty 11 = .ok (.iload 4, 2) := by decide +kernel
theorem dX3_fewestToEmpty_13 : decode cX3_fewestToEmpty 13 = .ok (.iload_n 2, 1) := by decide +kernel
theorem dX3_fewestToEmpty_14 : decode cX3_fewestToEmpty 14 = .ok (.if_icmp .ge 54, 3) := by decide +kernel
theorem dX3_fewestToEmpty_17 : decode cX3_fewestToEmpty 17 = .ok (.iload 4, 2) := by decide +kernel
theorem dX3_fewestToEmpty_19 : decode cX3_fewestToEmpty 19 = .ok (.iload_n 2, 1) := by decide +kernel
theorem dX3_fewestToEmpty_20 : decode cX3_fewestToEmpty 20 = .ok (.iconst (-1), 1) := by decide +kernel
theorem dX3_fewestToEmpty_21 : decode cX3_fewestToEmpty 21 = .ok (.ixor, 1) := by decide +kernel
theorem dX3_fewestToEmpty_22 : decode cX3_fewestToEmpty 22 = .ok (.iand, 1) := by decide +kernel
theorem dX3_fewestToEmpty_23 : decode cX3_fewestToEmpty 23 = .ok (.ifCond .ne 7, 3) := by decide +kernel
theorem dX3_fewestToEmpty_26 : decode cX3_fewestToEmpty 26 = .ok (.iconst 1, 1) := by decide +kernel
theorem dX3_fewestToEmpty_27 : decode cX3_fewestToEmpty 27 = .ok (.goto 4, 3) := by decide +kernel
theorem dX3_fewestToEmpty_30 : decode cX3_fewestToEmpty 30 = .ok (.iconst 0, 1) := by decide +kernel
theorem dX3_fewestToEmpty_31 : decode cX3_fewestToEmpty 31 = .ok (.istore 5, 2) := by decide +kernel
theorem dX3_fewestToEmpty_33 : decode cX3_fewestToEmpty 33 = .ok (.iload 5, 2) := by decide +kernel
theorem dX3_fewestToEmpty_35 : decode cX3_fewestToEmpty 35 = .ok (.ifCond .eq 27, 3) := by decide +kernel
theorem dX3_fewestToEmpty_38 : decode cX3_fewestToEmpty 38 = .ok (.iload 4, 2) := by decide +kernel
theorem dX3_fewestToEmpty_40 : decode cX3_fewestToEmpty 40 = .ok (.invokestatic 54, 3) := by decide +kernel
theorem dX3_fewestToEmpty_43 : decode cX3_fewestToEmpty 43 = .ok (.iload_n 3, 1) := by decide +kernel
theorem dX3_fewestToEmpty_44 : decode cX3_fewestToEmpty 44 = .ok (.invokestatic 54, 3) := by decide +kernel
theorem dX3_fewestToEmpty_47 : decode cX3_fewestToEmpty 47 = .ok (.if_icmp .ge 15, 3) := by decide +kernel
theorem dX3_fewestToEmpty_50 : decode cX3_fewestToEmpty 50 = .ok (.aload_n 0, 1) := by decide +kernel
theorem dX3_fewestToEmpty_51 : decode cX3_fewestToEmpty 51 = .ok (.iload 4, 2) := by decide +kernel
theorem dX3_fewestToEmpty_53 : decode cX3_fewestToEmpty 53 = .ok (.invokevirtual 77, 3) := by decide +kernel
theorem dX3_fewestToEmpty_56 : decode cX3_fewestToEmpty 56 = .ok (.ifCond .eq 6, 3) := by decide +kernel
theorem dX3_fewestToEmpty_59 : decode cX3_fewestToEmpty 59 = .ok (.iload 4, 2) := by decide +kernel
theorem dX3_fewestToEmpty_61 : decode cX3_fewestToEmpty 61 = .ok (.istore_n 3, 1) := by decide +kernel
theorem dX3_fewestToEmpty_62 : decode cX3_fewestToEmpty 62 = .ok (.iinc 4 1, 3) := by decide +kernel
theorem dX3_fewestToEmpty_65 : decode cX3_fewestToEmpty 65 = .ok (.goto (-54), 3) := by decide +kernel
theorem dX3_fewestToEmpty_68 : decode cX3_fewestToEmpty 68 = .ok (.iload_n 3, 1) := by decide +kernel
theorem dX3_fewestToEmpty_69 : decode cX3_fewestToEmpty 69 = .ok (.ireturn, 1) := by decide +kernel
theorem dX3_takeClashes_0 : decode cX3_takeClashes 0 = .ok (.iconst 0, 1) := by decide +kernel
theorem dX3_takeClashes_1 : decode cX3_takeClashes 1 = .ok (.istore_n 2, 1) := by decide +kernel
theorem dX3_takeClashes_2 : decode cX3_takeClashes 2 = .ok (.iconst 0, 1) := by decide +kernel
theorem dX3_takeClashes_3 : decode cX3_takeClashes 3 = .ok (.istore_n 3, 1) := by decide +kernel
theorem dX3_takeClashes_4 : decode cX3_takeClashes 4 = .ok (.iload_n 3, 1) := by decide +kernel
theorem dX3_takeClashes_5 : decode cX3_takeClashes 5 = .ok (.bipush 10, 2) := by decide +kernel
theorem dX3_takeClashes_7 : decode cX3_takeClashes 7 = .ok (.if_icmp .ge 51, 3) := by decide +kernel
theorem dX3_takeClashes_10 : decode cX3_takeClashes 10 = .ok (.aload_n 0, 1) := by decide +kernel
theorem dX3_takeClashes_11 : decode cX3_takeClashes 11 = .ok (.getfield 21, 3) := by decide +kernel
theorem dX3_takeClashes_14 : decode cX3_takeClashes 14 = .ok (.iload_n 3, 1) := by decide +kernel
theorem dX3_takeClashes_15 : decode cX3_takeClashes 15 = .ok (.aload_n 0, 1) := by decide +kernel
theorem dX3_takeClashes_16 : decode cX3_takeClashes 16 = .ok (.getfield 24, 3) := by decide +kernel
theorem dX3_takeClashes_19 : decode cX3_takeClashes 19 = .ok (.iload_n 3, 1) := by decide +kernel
theorem dX3_takeClashes_20 : decode cX3_takeClashes 20 = .ok (.invokestatic 37, 3) := by decide +kernel
theorem dX3_takeClashes_23 : decode cX3_takeClashes 23 = .ok (.ifCond .eq 18, 3) := by decide +kernel
theorem dX3_takeClashes_26 : decode cX3_takeClashes 26 = .ok (.aload_n 0, 1) := by decide +kernel
theorem dX3_takeClashes_27 : decode cX3_takeClashes 27 = .ok (.iload_n 3, 1) := by decide +kernel
theorem dX3_takeClashes_28 : decode cX3_takeClashes 28 = .ok (.aload_n 0, 1) := by decide +kernel
theorem dX3_takeClashes_29 : decode cX3_takeClashes 29 = .ok (.getfield 18, 3) := by decide +kernel
theorem dX3_takeClashes_32 : decode cX3_takeClashes 32 = .ok (.iload_n 3, 1) := by decide +kernel
theorem dX3_takeClashes_33 : decode cX3_takeClashes 33 = .ok (.iaload, 1) := by decide +kernel
theorem dX3_takeClashes_34 : decode cX3_takeClashes 34 = .ok (.aload_n 1, 1) := by decide +kernel
theorem dX3_takeClashes_35 : decode cX3_takeClashes 35 = .ok (.invokevirtual 50, 3) := by decide +kernel
theorem dX3_takeClashes_38 : decode cX3_takeClashes 38 = .ok (.goto 4, 3) := by decide +kernel
theorem dX3_takeClashes_41 : decode cX3_takeClashes 41 = .ok (.iconst 0, 1) := by decide +kernel
theorem dX3_takeClashes_42 : decode cX3_takeClashes 42 = .ok (.iastore, 1) := by decide +kernel
theorem dX3_takeClashes_43 : decode cX3_takeClashes 43 = .ok (.iload_n 2, 1) := by decide +kernel
theorem dX3_takeClashes_44 : decode cX3_takeClashes 44 = .ok (.aload_n 0, 1) := by decide +kernel
theorem dX3_takeClashes_45 : decode cX3_takeClashes 45 = .ok (.getfield 21, 3) := by decide +kernel
theorem dX3_takeClashes_48 : decode cX3_takeClashes 48 = .ok (.iload_n 3, 1) := by decide +kernel
theorem dX3_takeClashes_49 : decode cX3_takeClashes 49 = .ok (.iaload, 1) := by decide +kernel
theorem dX3_takeClashes_50 : decode cX3_takeClashes 50 = .ok (.ior, 1) := by decide +kernel
theorem dX3_takeClashes_51 : decode cX3_takeClashes 51 = .ok (.istore_n 2, 1) := by decide +kernel
theorem dX3_takeClashes_52 : decode cX3_takeClashes 52 = .ok (.iinc 3 1, 3) := by decide +kernel
theorem dX3_takeClashes_55 : decode cX3_takeClashes 55 = .ok (.goto (-51), 3) := by decide +kernel
theorem dX3_takeClashes_58 : decode cX3_takeClashes 58 = .ok (.iload_n 2, 1) := by decide +kernel
theorem dX3_takeClashes_59 : decode cX3_takeClashes 59 = .ok (.ireturn, 1) := by decide +kernel
theorem dX3_leavesNone_0 : decode cX3_leavesNone 0 = .ok (.iconst 0, 1) := by decide +kernel
theorem dX3_leavesNone_1 : decode cX3_leavesNone 1 = .ok (.istore_n 2, 1) := by decide +kernel
theorem dX3_leavesNone_2 : decode cX3_leavesNone 2 = .ok (.iload_n 2, 1) := by decide +kernel
theorem dX3_leavesNone_3 : decode cX3_leavesNone 3 = .ok (.bipush 10, 2) := by decide +kernel
theorem dX3_leavesNone_5 : decode cX3_leavesNone 5 = .ok (.if_icmp .ge 32, 3) := by decide +kernel
theorem dX3_leavesNone_8 : decode cX3_leavesNone 8 = .ok (.iload_n 1, 1) := by decide +kernel
theorem dX3_leavesNone_9 : decode cX3_leavesNone 9 = .ok (.iload_n 2, 1) := by decide +kernel
theorem dX3_leavesNone_10 : decode cX3_leavesNone 10 = .ok (.invokestatic 37, 3) := by decide +kernel
theorem dX3_leavesNone_13 : decode cX3_leavesNone 13 = .ok (.ifCond .ne 18, 3) := by decide +kernel
theorem dX3_leavesNone_16 : decode cX3_leavesNone 16 = .ok (.aload_n 0, 1) := by decide +kernel
theorem dX3_leavesNone_17 : decode cX3_leavesNone 17 = .ok (.getfield 21, 3) := by decide +kernel
theorem dX3_leavesNone_20 : decode cX3_leavesNone 20 = .ok (.iload_n 2, 1) := by decide +kernel
theorem dX3_leavesNone_21 : decode cX3_leavesNone 21 = .ok (.iaload, 1) := by decide +kernel
theorem dX3_leavesNone_22 : decode cX3_leavesNone 22 = .ok (.iload_n 1, 1) := by decide +kernel
theorem dX3_leavesNone_23 : decode cX3_leavesNone 23 = .ok (.iconst (-1), 1) := by decide +kernel
theorem dX3_leavesNone_24 : decode cX3_leavesNone 24 = .ok (.ixor, 1) := by decide +kernel
theorem dX3_leavesNone_25 : decode cX3_leavesNone 25 = .ok (.iand, 1) := by decide +kernel
theorem dX3_leavesNone_26 : decode cX3_leavesNone 26 = .ok (.ifCond .eq 5, 3) := by decide +kernel
theorem dX3_leavesNone_29 : decode cX3_leavesNone 29 = .ok (.iconst 0, 1) := by decide +kernel
theorem dX3_leavesNone_30 : decode cX3_leavesNone 30 = .ok (.ireturn, 1) := by decide +kernel
theorem dX3_leavesNone_31 : decode cX3_leavesNone 31 = .ok (.iinc 2 1, 3) := by decide +kernel
theorem dX3_leavesNone_34 : decode cX3_leavesNone 34 = .ok (.goto (-32), 3) := by decide +kernel
theorem dX3_leavesNone_37 : decode cX3_leavesNone 37 = .ok (.iconst 1, 1) := by decide +kernel
theorem dX3_leavesNone_38 : decode cX3_leavesNone 38 = .ok (.ireturn, 1) := by decide +kernel
theorem dX4_init_0 : decode cX4_init 0 = .ok (.aload_n 0, 1) := by decide +kernel
theorem dX4_init_1 : decode cX4_init 1 = .ok (.invokespecial 3, 3) := by decide +kernel
theorem dX4_init_4 : decode cX4_init 4 = .ok (.aload_n 0, 1) := by decide +kernel
theorem dX4_init_5 : decode cX4_init 5 = .ok (.bipush 12, 2) := by decide +kernel
theorem dX4_init_7 : decode cX4_init 7 = .ok (.newarray .int, 2) := by decide +kernel
theorem dX4_init_9 : decode cX4_init 9 = .ok (.putfield 9, 3) := by decide +kernel
theorem dX4_init_12 : decode cX4_init 12 = .ok (.aload_n 0, 1) := by decide +kernel
theorem dX4_init_13 : decode cX4_init 13 = .ok (.bipush 9, 2) := by decide +kernel
theorem dX4_init_15 : decode cX4_init 15 = .ok (.newarray .int, 2) := by decide +kernel
theorem dX4_init_17 : decode cX4_init 17 = .ok (.putfield 15, 3) := by decide +kernel
theorem dX4_init_20 : decode cX4_init 20 = .ok (.aload_n 0, 1) := by decide +kernel
theorem dX4_init_21 : decode cX4_init 21 = .ok (.iconst 0, 1) := by decide +kernel
theorem dX4_init_22 : decode cX4_init 22 = .ok (.putfield 18, 3) := by decide +kernel
theorem dX4_init_25 : decode cX4_init 25 = .ok (.aload_n 0, 1) := by decide +kernel
theorem dX4_init_26 : decode cX4_init 26 = .ok (.iconst 0, 1) := by decide +kernel
theorem dX4_init_27 : decode cX4_init 27 = .ok (.putfield 22, 3) := by decide +kernel
theorem dX4_init_30 : decode cX4_init 30 = .ok (.return_, 1) := by decide +kernel
theorem dX4_append_0 : decode cX4_append 0 = .ok (.aload_n 0, 1) := by decide +kernel
theorem dX4_append_1 : decode cX4_append 1 = .ok (.getfield 18, 3) := by decide +kernel
theorem dX4_append_4 : decode cX4_append 4 = .ok (.bipush 12, 2) := by decide +kernel
theorem dX4_append_6 : decode cX4_append 6 = .ok (.if_icmp .ge 27, 3) := by decide +kernel
theorem dX4_append_9 : decode cX4_append 9 = .ok (.aload_n 0, 1) := by decide +kernel
theorem dX4_append_10 : decode cX4_append 10 = .ok (.getfield 9, 3) := by decide +kernel
theorem dX4_append_13 : decode cX4_append 13 = .ok (.aload_n 0, 1) := by decide +kernel
theorem dX4_append_14 : decode cX4_append 14 = .ok (.getfield 18, 3) := by decide +kernel
theorem dX4_append_17 : decode cX4_append 17 = .ok (.iload_n 1, 1) := by decide +kernel
theorem dX4_append_18 : decode cX4_append 18 = .ok (.iastore, 1) := by decide +kernel
theorem dX4_append_19 : decode cX4_append 19 = .ok (.aload_n 0, 1) := by decide +kernel
theorem dX4_append_20 : decode cX4_append 20 = .ok (.dup, 1) := by decide +kernel
theorem dX4_append_21 : decode cX4_append 21 = .ok (.getfield 18, 3) := by decide +kernel
theorem dX4_append_24 : decode cX4_append 24 = .ok (.iconst 1, 1) := by decide +kernel
theorem dX4_append_25 : decode cX4_append 25 = .ok (.iadd, 1) := by decide +kernel
theorem dX4_append_26 : decode cX4_append 26 = .ok (.putfield 18, 3) := by decide +kernel
theorem dX4_append_29 : decode cX4_append 29 = .ok (.aload_n 0, 1) := by decide +kernel
theorem dX4_append_30 : decode cX4_append 30 = .ok (.invokevirtual 25, 3) := by decide +kernel
theorem dX4_append_33 : decode cX4_append 33 = .ok (.return_, 1) := by decide +kernel
theorem dX4_dropFirst_0 : decode cX4_dropFirst 0 = .ok (.iload_n 1, 1) := by decide +kernel
theorem dX4_dropFirst_1 : decode cX4_dropFirst 1 = .ok (.aload_n 0, 1) := by decide +kernel
theorem dX4_dropFirst_2 : decode cX4_dropFirst 2 = .ok (.getfield 18, 3) := by decide +kernel
theorem dX4_dropFirst_5 : decode cX4_dropFirst 5 = .ok (.invokestatic 28, 3) := by decide +kernel
theorem dX4_dropFirst_8 : decode cX4_dropFirst 8 = .ok (.istore_n 2, 1) := by decide +kernel
theorem dX4_dropFirst_9 : decode cX4_dropFirst 9 = .ok (.iload_n 2, 1) := by decide +kernel
theorem dX4_dropFirst_10 : decode cX4_dropFirst 10 = .ok (.istore_n 3, 1) := by decide +kernel
theorem dX4_dropFirst_11 : decode cX4_dropFirst 11 = .ok (.iload_n 3, 1) := by decide +kernel
theorem dX4_dropFirst_12 : decode cX4_dropFirst 12 = .ok (.aload_n 0, 1) := by decide +kernel
theorem dX4_dropFirst_13 : decode cX4_dropFirst 13 = .ok (.getfield 18, 3) := by decide +kernel
theorem dX4_dropFirst_16 : decode cX4_dropFirst 16 = .ok (.if_icmp .ge 23, 3) := by decide +kernel
theorem dX4_dropFirst_19 : decode cX4_dropFirst 19 = .ok (.aload_n 0, 1) := by decide +kernel
theorem dX4_dropFirst_20 : decode cX4_dropFirst 20 = .ok (.getfield 9, 3) := by decide +kernel
theorem dX4_dropFirst_23 : decode cX4_dropFirst 23 = .ok (.iload_n 3, 1) := by decide +kernel
theorem dX4_dropFirst_24 : decode cX4_dropFirst 24 = .ok (.iload_n 2, 1) := by decide +kernel
theorem dX4_dropFirst_25 : decode cX4_dropFirst 25 = .ok (.isub, 1) := by decide +kernel
theorem dX4_dropFirst_26 : decode cX4_dropFirst 26 = .ok (.aload_n 0, 1) := by decide +kernel
theorem dX4_dropFirst_27 : decode cX4_dropFirst 27 = .ok (.getfield 9, 3) := by decide +kernel
theorem dX4_dropFirst_30 : decode cX4_dropFirst 30 = .ok (.iload_n 3, 1) := by decide +kernel
theorem dX4_dropFirst_31 : decode cX4_dropFirst 31 = .ok (.iaload, 1) := by decide +kernel
theorem dX4_dropFirst_32 : decode cX4_dropFirst 32 = .ok (.iastore, 1) := by decide +kernel
theorem dX4_dropFirst_33 : decode cX4_dropFirst 33 = .ok (.iinc 3 1, 3) := by decide +kernel
theorem dX4_dropFirst_36 : decode cX4_dropFirst 36 = .ok (.goto (-25), 3) := by decide +kernel
theorem dX4_dropFirst_39 : decode cX4_dropFirst 39 = .ok (.aload_n 0, 1) := by decide +kernel
theorem dX4_dropFirst_40 : decode cX4_dropFirst 40 = .ok (.dup, 1) := by decide +kernel
theorem dX4_dropFirst_41 : decode cX4_dropFirst 41 = .ok (.getfield 18, 3) := by decide +kernel
theorem dX4_dropFirst_44 : decode cX4_dropFirst 44 = .ok (.iload_n 2, 1) := by decide +kernel
theorem dX4_dropFirst_45 : decode cX4_dropFirst 45 = .ok (.isub, 1) := by decide +kernel
theorem dX4_dropFirst_46 : decode cX4_dropFirst 46 = .ok (.putfield 18, 3) := by decide +kernel
theorem dX4_dropFirst_49 : decode cX4_dropFirst 49 = .ok (.aload_n 0, 1) := by decide +kernel
theorem dX4_dropFirst_50 : decode cX4_dropFirst 50 = .ok (.invokevirtual 25, 3) := by decide +kernel
theorem dX4_dropFirst_53 : decode cX4_dropFirst 53 = .ok (.return_, 1) := by decide +kernel
theorem dX4_become_0 : decode cX4_become 0 = .ok (.aload_n 0, 1) := by decide +kernel
theorem dX4_become_1 : decode cX4_become 1 = .ok (.aload_n 1, 1) := by decide +kernel
theorem dX4_become_2 : decode cX4_become 2 = .ok (.getfield 18, 3) := by decide +kernel
theorem dX4_become_5 : decode cX4_become 5 = .ok (.putfield 18, 3) := by decide +kernel
theorem dX4_become_8 : decode cX4_become 8 = .ok (.iconst 0, 1) := by decide +kernel
theorem dX4_become_9 : decode cX4_become 9 = .ok (.istore_n 3, 1) := by decide +kernel
theorem dX4_become_10 : decode cX4_become 10 = .ok (.iload_n 3, 1) := by decide +kernel
theorem dX4_become_11 : decode cX4_become 11 = .ok (.aload_n 0, 1) := by decide +kernel
theorem dX4_become_12 : decode cX4_become 12 = .ok (.getfield 18, 3) := by decide +kernel
theorem dX4_become_15 : decode cX4_become 15 = .ok (.if_icmp .ge 42, 3) := by decide +kernel
theorem dX4_become_18 : decode cX4_become 18 = .ok (.aload_n 1, 1) := by decide +kernel
theorem dX4_become_19 : decode cX4_become 19 = .ok (.getfield 9, 3) := by decide +kernel
theorem dX4_become_22 : decode cX4_become 22 = .ok (.iload_n 3, 1) := by decide +kernel
theorem dX4_become_23 : decode cX4_become 23 = .ok (.iaload, 1) := by decide +kernel
theorem dX4_become_24 : decode cX4_become 24 = .ok (.istore 4, 2) := by decide +kernel
theorem dX4_become_26 : decode cX4_become 26 = .ok (.aload_n 0, 1) := by decide +kernel
theorem dX4_become_27 : decode cX4_become 27 = .ok (.getfield 9, 3) := by decide +kernel
theorem dX4_become_30 : decode cX4_become 30 = .ok (.iload_n 3, 1) := by decide +kernel
theorem dX4_become_31 : decode cX4_become 31 = .ok (.iload 4, 2) := by decide +kernel
theorem dX4_become_33 : decode cX4_become 33 = .ok (.bipush 10, 2) := by decide +kernel
theorem dX4_become_35 : decode cX4_become 35 = .ok (.if_icmp .ge 13, 3) := by decide +kernel
theorem dX4_become_38 : decode cX4_become 38 = .ok (.iload 4, 2) := by decide +kernel
theorem dX4_become_40 : decode cX4_become 40 = .ok (.iload_n 2, 1) := by decide +kernel
theorem dX4_become_41 : decode cX4_become 41 = .ok (.iadd, 1) := by decide +kernel
theorem dX4_become_42 : decode cX4_become 42 = .ok (.bipush 10, 2) := by decide +kernel
theorem dX4_become_44 : decode cX4_become 44 = .ok (.irem, 1) := by decide +kernel
theorem dX4_become_45 : decode cX4_become 45 = .ok (.goto 5, 3) := by decide +kernel
theorem dX4_become_48 : decode cX4_become 48 = .ok (.iload 4, 2) := by decide +kernel
theorem dX4_become_50 : decode cX4_become 50 = .ok (.iastore, 1) := by decide +kernel
theorem dX4_become_51 : decode cX4_become 51 = .ok (.iinc 3 1, 3) := by decide +kernel
theorem dX4_become_54 : decode cX4_become 54 = .ok (.goto (-44), 3) := by decide +kernel
theorem dX4_become_57 : decode cX4_become 57 = .ok (.aload_n 0, 1) := by decide +kernel
theorem dX4_become_58 : decode cX4_become 58 = .ok (.invokevirtual 25, 3) := by decide +kernel
theorem dX4_become_61 : decode cX4_become 61 = .ok (.return_, 1) := by decide +kernel
theorem dX4_shareWith_0 : decode cX4_shareWith 0 = .ok (.aload_n 0, 1) := by decide +kernel
theorem dX4_shareWith_1 : decode cX4_shareWith 1 = .ok (.getfield 22, 3) := by decide +kernel
theorem dX4_shareWith_4 : decode cX4_shareWith 4 = .ok (.aload_n 1, 1) := by decide +kernel
theorem dX4_shareWith_5 : decode cX4_shareWith 5 = .ok (.getfield 22, 3) := by decide +kernel
theorem dX4_shareWith_8 : decode cX4_shareWith 8 = .ok (.invokestatic 28, 3) := by decide +kernel
theorem dX4_shareWith_11 : decode cX4_shareWith 11 = .ok (.istore_n 2, 1) := by decide +kernel
theorem dX4_shareWith_12 : decode cX4_shareWith 12 = .ok (.iload_n 2, 1) := by decide +kernel
theorem dX4_shareWith_13 : decode cX4_shareWith 13 = .ok (.ifCond .ne 5, 3) := by decide +kernel
theorem dX4_shareWith_16 : decode cX4_shareWith 16 = .ok (.iconst 0, 1) := by decide +kernel
theorem dX4_shareWith_17 : decode cX4_shareWith 17 = .ok (.ireturn, 1) := by decide +kernel
theorem dX4_shareWith_18 : decode cX4_shareWith 18 = .ok (.iconst 0, 1) := by decide +kernel
theorem dX4_shareWith_19 : decode cX4_shareWith 19 = .ok (.istore_n 3, 1) := by decide +kernel
theorem dX4_shareWith_20 : decode cX4_shareWith 20 = .ok (.iconst 0, 1) := by decide +kernel
theorem dX4_shareWith_21 : decode cX4_shareWith 21 = .ok (.istore 4, 2) := by decide +kernel
theorem dX4_shareWith_23 : decode cX4_shareWith 23 = .ok (.iload 4, 2) := by decide +kernel
theorem dX4_shareWith_25 : decode cX4_shareWith 25 = .ok (.aload_n 0, 1) := by decide +kernel
theorem dX4_shareWith_26 : decode cX4_shareWith 26 = .ok (.getfield 22, 3) := by decide +kernel
theorem dX4_shareWith_29 : decode cX4_shareWith 29 = .ok (.if_icmp .ge 26, 3) := by decide +kernel
theorem dX4_shareWith_32 : decode cX4_shareWith 32 = .ok (.aload_n 1, 1) := by decide +kernel
theorem dX4_shareWith_33 : decode cX4_shareWith 33 = .ok (.aload_n 0, 1) := by decide +kernel
theorem dX4_shareWith_34 : decode cX4_shareWith 34 = .ok (.getfield 15, 3) := by decide +kernel
theorem dX4_shareWith_37 : decode cX4_shareWith 37 = .ok (.iload 4, 2) := by decide +kernel
theorem dX4_shareWith_39 : decode cX4_shareWith 39 = .ok (.iaload, 1) := by decide +kernel
theorem dX4_shareWith_40 : decode cX4_shareWith 40 = .ok (.invokevirtual 34, 3) := by decide +kernel
theorem dX4_shareWith_43 : decode cX4_shareWith 43 = .ok (.ifCond .eq 6, 3) := by decide +kernel
theorem dX4_shareWith_46 : decode cX4_shareWith 46 = .ok (.iinc 3 1, 3) := by decide +kernel
theorem dX4_shareWith_49 : decode cX4_shareWith 49 = .ok (.iinc 4 1, 3) := by decide +kernel
theorem dX4_shareWith_52 : decode cX4_shareWith 52 = .ok (.goto (-29), 3) := by decide +kernel
theorem dX4_shareWith_55 : decode cX4_shareWith 55 = .ok (.iload_n 3, 1) := by decide +kernel
theorem dX4_shareWith_56 : decode cX4_shareWith 56 = .ok (.bipush 100, 2) := by decide +kernel
theorem dX4_shareWith_58 : decode cX4_shareWith 58 = .ok (.imul, 1) := by decide +kernel
theorem dX4_shareWith_59 : decode cX4_shareWith 59 = .ok (.iload_n 2, 1) := by decide +kernel
theorem dX4_shareWith_60 : decode cX4_shareWith 60 = .ok (.idiv, 1) := by decide +kernel
theorem dX4_shareWith_61 : decode cX4_shareWith 61 = .ok (.ireturn, 1) := by decide +kernel
theorem dX4_takePrints_0 : decode cX4_takePrints 0 = .ok (.aload_n 0, 1) := by decide +kernel
theorem dX4_takePrints_1 : decode cX4_takePrints 1 = .ok (.iconst 0, 1) := by decide +kernel
theorem dX4_takePrints_2 : decode cX4_takePrints 2 = .ok (.putfield 22, 3) := by decide +kernel
theorem dX4_takePrints_5 : decode cX4_takePrints 5 = .ok (.iconst 0, 1) := by decide +kernel
theorem dX4_takePrints_6 : decode cX4_takePrints 6 = .ok (.istore_n 1, 1) := by decide +kernel
theorem dX4_takePrints_7 : decode cX4_takePrints 7 = .ok (.iload_n 1, 1) := by decide +kernel
theorem dX4_takePrints_8 : decode cX4_takePrints 8 = .ok (.iconst 4, 1) := by decide +kernel
theorem dX4_takePrints_9 : decode cX4_takePrints 9 = .ok (.iadd, 1) := by decide +kernel
theorem dX4_takePrints_10 : decode cX4_takePrints 10 = .ok (.aload_n 0, 1) := by decide +kernel
theorem dX4_takePrints_11 : decode cX4_takePrints 11 = .ok (.getfield 18, 3) := by decide +kernel
theorem dX4_takePrints_14 : decode cX4_takePrints 14 = .ok (.if_icmp .gt 43, 3) := by decide +kernel
theorem dX4_takePrints_17 : decode cX4_takePrints 17 = .ok (.aload_n 0, 1) := by decide +kernel
theorem dX4_takePrints_18 : decode cX4_takePrints 18 = .ok (.iload_n 1, 1) := by decide +kernel
theorem dX4_takePrints_19 : decode cX4_takePrints 19 = .ok (.invokevirtual 38, 3) := by decide +kernel
theorem dX4_takePrints_22 : decode cX4_takePrints 22 = .ok (.istore_n 2, 1) := by decide +kernel
theorem dX4_takePrints_23 : decode cX4_takePrints 23 = .ok (.aload_n 0, 1) := by decide +kernel
theorem dX4_takePrints_24 : decode cX4_takePrints 24 = .ok (.iload_n 2, 1) := by decide +kernel
theorem dX4_takePrints_25 : decode cX4_takePrints 25 = .ok (.invokevirtual 34, 3) := by decide +kernel
theorem dX4_takePrints_28 : decode cX4_takePrints 28 = .ok (.ifCond .ne 23, 3) := by decide +kernel
theorem dX4_takePrints_31 : decode cX4_takePrints 31 = .ok (.aload_n 0, 1) := by decide +kernel
theorem dX4_takePrints_32 : decode cX4_takePrints 32 = .ok (.getfield 15, 3) := by decide +kernel
theorem dX4_takePrints_35 : decode cX4_takePrints 35 = .ok (.aload_n 0, 1) := by decide +kernel
theorem dX4_takePrints_36 : decode cX4_takePrints 36 = .ok (.getfield 22, 3) := by decide +kernel
theorem dX4_takePrints_39 : decode cX4_takePrints 39 = .ok (.iload_n 2, 1) := by decide +kernel
theorem dX4_takePrints_40 : decode cX4_takePrints 40 = .ok (.iastore, 1) := by decide +kernel
theorem dX4_takePrints_41 : decode cX4_takePrints 41 = .ok (.aload_n 0, 1) := by decide +kernel
theorem dX4_takePrints_42 : decode cX4_takePrints 42 = .ok (.dup, 1) := by decide +kernel
theorem dX4_takePrints_43 : decode cX4_takePrints 43 = .ok (.getfield 22, 3) := by decide +kernel
theorem dX4_takePrints_46 : decode cX4_takePrints 46 = .ok (.iconst 1, 1) := by decide +kernel
theorem dX4_takePrints_47 : decode cX4_takePrints 47 = .ok (.iadd, 1) := by decide +kernel
theorem dX4_takePrints_48 : decode cX4_takePrints 48 = .ok (.putfield 22, 3) := by decide +kernel
theorem dX4_takePrints_51 : decode cX4_takePrints 51 = .ok (.iinc 1 1, 3) := by decide +kernel
theorem dX4_takePrints_54 : decode cX4_takePrints 54 = .ok (.goto (-47), 3) := by decide +kernel
theorem dX4_takePrints_57 : decode cX4_takePrints 57 = .ok (.return_, 1) := by decide +kernel
theorem dX4_hasPrint_0 : decode cX4_hasPrint 0 = .ok (.iconst 0, 1) := by decide +kernel
theorem dX4_hasPrint_1 : decode cX4_hasPrint 1 = .ok (.istore_n 2, 1) := by decide +kernel
theorem dX4_hasPrint_2 : decode cX4_hasPrint 2 = .ok (.iload_n 2, 1) := by decide +kernel
theorem dX4_hasPrint_3 : decode cX4_hasPrint 3 = .ok (.aload_n 0, 1) := by decide +kernel
theorem dX4_hasPrint_4 : decode cX4_hasPrint 4 = .ok (.getfield 22, 3) := by decide +kernel
theorem dX4_hasPrint_7 : decode cX4_hasPrint 7 = .ok (.if_icmp .ge 21, 3) := by decide +kernel
theorem dX4_hasPrint_10 : decode cX4_hasPrint 10 = .ok (.aload_n 0, 1) := by decide +kernel
theorem dX4_hasPrint_11 : decode cX4_hasPrint 11 = .ok (.getfield 15, 3) := by decide +kernel
theorem dX4_hasPrint_14 : decode cX4_hasPrint 14 = .ok (.iload_n 2, 1) := by decide +kernel
theorem dX4_hasPrint_15 : decode cX4_hasPrint 15 = .ok (.iaload, 1) := by decide +kernel
theorem dX4_hasPrint_16 : decode cX4_hasPrint 16 = .ok (.iload_n 1, 1) := by decide +kernel
theorem dX4_hasPrint_17 : decode cX4_hasPrint 17 = .ok (.if_icmp .ne 5, 3) := by decide +kernel
theorem dX4_hasPrint_20 : decode cX4_hasPrint 20 = .ok (.iconst 1, 1) := by decide +kernel
theorem dX4_hasPrint_21 : decode cX4_hasPrint 21 = .ok (.ireturn, 1) := by decide +kernel
theorem dX4_hasPrint_22 : decode cX4_hasPrint 22 = .ok (.iinc 2 1, 3) := by decide +kernel
theorem dX4_hasPrint_25 : decode cX4_hasPrint 25 = .ok (.goto (-23), 3) := by decide +kernel
theorem dX4_hasPrint_28 : decode cX4_hasPrint 28 = .ok (.iconst 0, 1) := by decide +kernel
theorem dX4_hasPrint_29 : decode cX4_hasPrint 29 = .ok (.ireturn, 1) := by decide +kernel
theorem dX4_printAt_0 : decode cX4_printAt 0 = .ok (.iconst 0, 1) := by decide +kernel
theorem dX4_printAt_1 : decode cX4_printAt 1 = .ok (.istore_n 2, 1) := by decide +kernel
theorem dX4_printAt_2 : decode cX4_printAt 2 = .ok (.iload_n 1, 1) := by decide +kernel
theorem dX4_printAt_3 : decode cX4_printAt 3 = .ok (.istore_n 3, 1) := by decide +kernel
theorem dX4_printAt_4 : decode cX4_printAt 4 = .ok (.iload_n 3, 1) := by decide +kernel
theorem dX4_printAt_5 : decode cX4_printAt 5 = .ok (.iload_n 1, 1) := by decide +kernel
theorem dX4_printAt_6 : decode cX4_printAt 6 = .ok (.iconst 4, 1) := by decide +kernel
theorem dX4_printAt_7 : decode cX4_printAt 7 = .ok (.iadd, 1) := by decide +kernel
theorem dX4_printAt_8 : decode cX4_printAt 8 = .ok (.if_icmp .ge 45, 3) := by decide +kernel
theorem dX4_printAt_11 : decode cX4_printAt 11 = .ok (.aload_n 0, 1) := by decide +kernel
theorem dX4_printAt_12 : decode cX4_printAt 12 = .ok (.getfield 9, 3) := by decide +kernel
theorem dX4_printAt_15 : decode cX4_printAt 15 = .ok (.iload_n 3, 1) := by decide +kernel
theorem dX4_printAt_16 : decode cX4_printAt 16 = .ok (.iaload, 1) := by decide +kernel
theorem dX4_printAt_17 : decode cX4_printAt 17 = .ok (.bipush 10, 2) := by decide +kernel
theorem dX4_printAt_19 : decode cX4_printAt 19 = .ok (.if_icmp .ge 12, 3) := by decide +kernel
theorem dX4_printAt_22 : decode cX4_printAt 22 = .ok (.aload_n 0, 1) := by decide +kernel
theorem dX4_printAt_23 : decode cX4_printAt 23 = .ok (.iload_n 1, 1) := by decide +kernel
theorem dX4_printAt_24 : decode cX4_printAt 24 = .ok (.iload_n 3, 1) := by decide +kernel
theorem dX4_printAt_25 : decode cX4_printAt 25 = .ok (.invokevirtual 42, 3) := by decide +kernel
theorem dX4_printAt_28 : decode cX4_printAt 28 = .ok (.goto 9, 3) := by decide +kernel
theorem dX4_printAt_31 : decode cX4_printAt 31 = .ok (.aload_n 0, 1) := by decide +kernel
theorem dX4_printAt_32 : decode cX4_printAt 32 = .ok (.getfield 9, 3) := by decide +kernel
theorem dX4_printAt_35 : decode cX4_printAt 35 = .ok (.iload_n 3, 1) := by decide +kernel
theorem dX4_printAt_36 : decode cX4_printAt 36 = .ok (.iaload, 1) := by decide +kernel
theorem dX4_printAt_37 : decode cX4_printAt 37 = .ok (.istore 4, 2) := by decide +kernel
theorem dX4_printAt_39 : decode cX4_printAt 39 = .ok (.iload_n 2, 1) := by decide +kernel
theorem dX4_printAt_40 : decode cX4_printAt 40 = .ok (.bipush 30, 2) := by decide +kernel
theorem dX4_printAt_42 : decode cX4_printAt 42 = .ok (.imul, 1) := by decide +kernel
theorem dX4_printAt_43 : decode cX4_printAt 43 = .ok (.iload 4, 2) := by decide +kernel
theorem dX4_printAt_45 : decode cX4_printAt 45 = .ok (.iadd, 1) := by decide +kernel
theorem dX4_printAt_46 : decode cX4_printAt 46 = .ok (.istore_n 2, 1) := by decide +kernel
theorem dX4_printAt_47 : decode cX4_printAt 47 = .ok (.iinc 3 1, 3) := by decide +kernel
theorem dX4_printAt_50 : decode cX4_printAt 50 = .ok (.goto (-46), 3) := by decide +kernel
theorem dX4_printAt_53 : decode cX4_printAt 53 = .ok (.iload_n 2, 1) := by decide +kernel
theorem dX4_printAt_54 : decode cX4_printAt 54 = .ok (.ireturn, 1) := by decide +kernel
theorem dX4_firstPlace_0 : decode cX4_firstPlace 0 = .ok (.iload_n 1, 1) := by decide +kernel
theorem dX4_firstPlace_1 : decode cX4_firstPlace 1 = .ok (.istore_n 3, 1) := by decide +kernel
theorem dX4_firstPlace_2 : decode cX4_firstPlace 2 = .ok (.iload_n 3, 1) := by decide +kernel
theorem dX4_firstPlace_3 : decode cX4_firstPlace 3 = .ok (.iload_n 2, 1) := by decide +kernel
theorem dX4_firstPlace_4 : decode cX4_firstPlace 4 = .ok (.if_icmp .ge 28, 3) := by decide +kernel
theorem dX4_firstPlace_7 : decode cX4_firstPlace 7 = .ok (.aload_n 0, 1) := by decide +kernel
theorem dX4_firstPlace_8 : decode cX4_firstPlace 8 = .ok (.getfield 9, 3) := by decide +kernel
theorem dX4_firstPlace_11 : decode cX4_firstPlace 11 = .ok (.iload_n 3, 1) := by decide +kernel
theorem dX4_firstPlace_12 : decode cX4_firstPlace 12 = .ok (.iaload, 1) := by decide +kernel
theorem dX4_firstPlace_13 : decode cX4_firstPlace 13 = .ok (.aload_n 0, 1) := by decide +kernel
theorem dX4_firstPlace_14 : decode cX4_firstPlace 14 = .ok (.getfield 9, 3) := by decide +kernel
theorem dX4_firstPlace_17 : decode cX4_firstPlace 17 = .ok (.iload_n 2, 1) := by decide +kernel
theorem dX4_firstPlace_18 : decode cX4_firstPlace 18 = .ok (.iaload, 1) := by decide +kernel
theorem dX4_firstPlace_19 : decode cX4_firstPlace 19 = .ok (.if_icmp .ne 7, 3) := by decide +kernel
theorem dX4_firstPlace_22 : decode cX4_firstPlace 22 = .ok (.iload_n 3, 1) := by decide +kernel
theorem dX4_firstPlace_23 : decode cX4_firstPlace 23 = .ok (.iload_n 1, 1) := by decide +kernel
theorem dX4_firstPlace_24 : decode cX4_firstPlace 24 = .ok (.isub, 1) := by decide +kernel
theorem dX4_firstPlace_25 : decode cX4_firstPlace 25 = .ok (.ireturn, 1) := by decide +kernel
theorem dX4_firstPlace_26 : decode cX4_firstPlace 26 = .ok (.iinc 3 1, 3) := by decide +kernel
theorem dX4_firstPlace_29 : decode cX4_firstPlace 29 = .ok (.goto (-27), 3) := by decide +kernel
theorem dX4_firstPlace_32 : decode cX4_firstPlace 32 = .ok (.iload_n 2, 1) := by decide +kernel
theorem dX4_firstPlace_33 : decode cX4_firstPlace 33 = .ok (.iload_n 1, 1) := by decide +kernel
theorem dX4_firstPlace_34 : decode cX4_firstPlace 34 = .ok (.isub, 1) := by decide +kernel
theorem dX4_firstPlace_35 : decode cX4_firstPlace 35 = .ok (.ireturn, 1) := by decide +kernel
theorem dX5_init_0 : decode cX5_init 0 = .ok (.aload_n 0, 1) := by decide +kernel
theorem dX5_init_1 : decode cX5_init 1 = .ok (.invokespecial 3, 3) := by decide +kernel
theorem dX5_init_4 : decode cX5_init 4 = .ok (.aload_n 0, 1) := by decide +kernel
theorem dX5_init_5 : decode cX5_init 5 = .ok (.new 9, 3) := by decide +kernel
theorem dX5_init_8 : decode cX5_init 8 = .ok (.dup, 1) := by decide +kernel
theorem dX5_init_9 : decode cX5_init 9 = .ok (.invokespecial 11, 3) := by decide +kernel
theorem dX5_init_12 : decode cX5_init 12 = .ok (.putfield 12, 3) := by decide +kernel
theorem dX5_init_15 : decode cX5_init 15 = .ok (.aload_n 0, 1) := by decide +kernel
theorem dX5_init_16 : decode cX5_init 16 = .ok (.bipush 16, 2) := by decide +kernel
theorem dX5_init_18 : decode cX5_init 18 = .ok (.anewarray 16, 3) := by decide +kernel
theorem dX5_init_21 : decode cX5_init 21 = .ok (.putfield 18, 3) := by decide +kernel
theorem dX5_init_24 : decode cX5_init 24 = .ok (.aload_n 0, 1) := by decide +kernel
theorem dX5_init_25 : decode cX5_init 25 = .ok (.bipush 16, 2) := by decide +kernel
theorem dX5_init_27 : decode cX5_init 27 = .ok (.bipush 16, 2) := by decide +kernel
theorem dX5_init_29 : decode cX5_init 29 = .ok (.multianewarray 22 2, 4) := by decide +kernel
theorem dX5_init_33 : decode cX5_init 33 = .ok (.putfield 24, 3) := by decide +kernel
theorem dX5_init_36 : decode cX5_init 36 = .ok (.aload_n 0, 1) := by decide +kernel
theorem dX5_init_37 : decode cX5_init 37 = .ok (.bipush 16, 2) := by decide +kernel
theorem dX5_init_39 : decode cX5_init 39 = .ok (.newarray .int, 2) := by decide +kernel
theorem dX5_init_41 : decode cX5_init 41 = .ok (.putfield 27, 3) := by decide +kernel
theorem dX5_init_44 : decode cX5_init 44 = .ok (.aload_n 0, 1) := by decide +kernel
theorem dX5_init_45 : decode cX5_init 45 = .ok (.bipush 6, 2) := by decide +kernel
theorem dX5_init_47 : decode cX5_init 47 = .ok (.anewarray 31, 3) := by decide +kernel
theorem dX5_init_50 : decode cX5_init 50 = .ok (.putfield 33, 3) := by decide +kernel
theorem dX5_init_53 : decode cX5_init 53 = .ok (.aload_n 0, 1) := by decide +kernel
theorem dX5_init_54 : decode cX5_init 54 = .ok (.iconst 5, 1) := by decide +kernel
theorem dX5_init_55 : decode cX5_init 55 = .ok (.anewarray 37, 3) := by decide +kernel
theorem dX5_init_58 : decode cX5_init 58 = .ok (.putfield 39, 3) := by decide +kernel
theorem dX5_init_61 : decode cX5_init 61 = .ok (.aload_n 0, 1) := by decide +kernel
theorem dX5_init_62 : decode cX5_init 62 = .ok (.new 43, 3) := by decide +kernel
theorem dX5_init_65 : decode cX5_init 65 = .ok (.dup, 1) := by decide +kernel
theorem dX5_init_66 : decode cX5_init 66 = .ok (.invokespecial 45, 3) := by decide +kernel
theorem dX5_init_69 : decode cX5_init 69 = .ok (.putfield 46, 3) := by decide +kernel
theorem dX5_init_72 : decode cX5_init 72 = .ok (.aload_n 0, 1) := by decide +kernel
theorem dX5_init_73 : decode cX5_init 73 = .ok (.new 43, 3) := by decide +kernel
theorem dX5_init_76 : decode cX5_init 76 = .ok (.dup, 1) := by decide +kernel
theorem dX5_init_77 : decode cX5_init 77 = .ok (.invokespecial 45, 3) := by decide +kernel
theorem dX5_init_80 : decode cX5_init 80 = .ok (.putfield 50, 3) := by decide +kernel
theorem dX5_init_83 : decode cX5_init 83 = .ok (.aload_n 0, 1) := by decide +kernel
theorem dX5_init_84 : decode cX5_init 84 = .ok (.iconst 0, 1) := by decide +kernel
theorem dX5_init_85 : decode cX5_init 85 = .ok (.putfield 53, 3) := by decide +kernel
theorem dX5_init_88 : decode cX5_init 88 = .ok (.aload_n 0, 1) := by decide +kernel
theorem dX5_init_89 : decode cX5_init 89 = .ok (.iconst 0, 1) := by decide +kernel
theorem dX5_init_90 : decode cX5_init 90 = .ok (.putfield 57, 3) := by decide +kernel
theorem dX5_init_93 : decode cX5_init 93 = .ok (.aload_n 0, 1) := by decide +kernel
theorem dX5_init_94 : decode cX5_init 94 = .ok (.iconst 0, 1) := by decide +kernel
theorem dX5_init_95 : decode cX5_init 95 = .ok (.putfield 60, 3) := by decide +kernel
theorem dX5_init_98 : decode cX5_init 98 = .ok (.aload_n 0, 1) := by decide +kernel
theorem dX5_init_99 : decode cX5_init 99 = .ok (.iconst 0, 1) := by decide +kernel
theorem dX5_init_100 : decode cX5_init 100 = .ok (.putfield 63, 3) := by decide +kernel
theorem dX5_init_103 : decode cX5_init 103 = .ok (.aload_n 0, 1) := by decide +kernel
theorem dX5_init_104 : decode cX5_init 104 = .ok (.bipush 60, 2) := by decide +kernel
theorem dX5_init_106 : decode cX5_init 106 = .ok (.putfield 66, 3) := by decide +kernel
theorem dX5_init_109 : decode cX5_init 109 = .ok (.iconst 0, 1) := by decide +kernel
theorem dX5_init_110 : decode cX5_init 110 = .ok (.istore_n 1, 1) := by decide +kernel
theorem dX5_init_111 : decode cX5_init 111 = .ok (.iload_n 1, 1) := by decide +kernel
theorem dX5_init_112 : decode cX5_init 112 = .ok (.bipush 16, 2) := by decide +kernel
theorem dX5_init_114 : decode cX5_init 114 = .ok (.if_icmp .ge 22, 3) := by decide +kernel
theorem dX5_init_117 : decode cX5_init 117 = .ok (.aload_n 0, 1) := by decide +kernel
theorem dX5_init_118 : decode cX5_init 118 = .ok (.getfield 18, 3) := by decide +kernel
theorem dX5_init_121 : decode cX5_init 121 = .ok (.iload_n 1, 1) := by decide +kernel
theorem dX5_init_122 : decode cX5_init 122 = .ok (.new 16, 3) := by decide +kernel
theorem dX5_init_125 : decode cX5_init 125 = .ok (.dup, 1) := by decide +kernel
theorem dX5_init_126 : decode cX5_init 126 = .ok (.invokespecial 69, 3) := by decide +kernel
theorem dX5_init_129 : decode cX5_init 129 = .ok (.aastore, 1) := by decide +kernel
theorem dX5_init_130 : decode cX5_init 130 = .ok (.iinc 1 1, 3) := by decide +kernel
theorem dX5_init_133 : decode cX5_init 133 = .ok (.goto (-22), 3) := by decide +kernel
theorem dX5_init_136 : decode cX5_init 136 = .ok (.iconst 0, 1) := by decide +kernel
theorem dX5_init_137 : decode cX5_init 137 = .ok (.istore_n 1, 1) := by decide +kernel
theorem dX5_init_138 : decode cX5_init 138 = .ok (.iload_n 1, 1) := by decide +kernel
theorem dX5_init_139 : decode cX5_init 139 = .ok (.bipush 6, 2) := by decide +kernel
theorem dX5_init_141 : decode cX5_init 141 = .ok (.if_icmp .ge 22, 3) := by decide +kernel
theorem dX5_init_144 : decode cX5_init 144 = .ok (.aload_n 0, 1) := by decide +kernel
theorem dX5_init_145 : decode cX5_init 145 = .ok (.getfield 33, 3) := by decide +kernel
theorem dX5_init_148 : decode cX5_init 148 = .ok (.iload_n 1, 1) := by decide +kernel
theorem dX5_init_149 : decode cX5_init 149 = .ok (.new 31, 3) := by decide +kernel
theorem dX5_init_152 : decode cX5_init 152 = .ok (.dup, 1) := by decide +kernel
theorem dX5_init_153 : decode cX5_init 153 = .ok (.invokespecial 70, 3) := by decide +kernel
theorem dX5_init_156 : decode cX5_init 156 = .ok (.aastore, 1) := by decide +kernel
theorem dX5_init_157 : decode cX5_init 157 = .ok (.iinc 1 1, 3) := by decide +kernel
theorem dX5_init_160 : decode cX5_init 160 = .ok (.goto (-22), 3) := by decide +kernel
theorem dX5_init_163 : decode cX5_init 163 = .ok (.iconst 0, 1) := by decide +kernel
theorem dX5_init_164 : decode cX5_init 164 = .ok (.istore_n 1, 1) := by decide +kernel
theorem dX5_init_165 : decode cX5_init 165 = .ok (.iload_n 1, 1) := by decide +kernel
theorem dX5_init_166 : decode cX5_init 166 = .ok (.iconst 5, 1) := by decide +kernel
theorem dX5_init_167 : decode cX5_init 167 = .ok (.if_icmp .ge 22, 3) := by decide +kernel
theorem dX5_init_170 : decode cX5_init 170 = .ok (.aload_n 0, 1) := by decide +kernel
theorem dX5_init_171 : decode cX5_init 171 = .ok (.getfield 39, 3) := by decide +kernel
theorem dX5_init_174 : decode cX5_init 174 = .ok (.iload_n 1, 1) := by decide +kernel
theorem dX5_init_175 : decode cX5_init 175 = .ok (.new 37, 3) := by decide +kernel
theorem dX5_init_178 : decode cX5_init 178 = .ok (.dup, 1) := by decide +kernel
theorem dX5_init_179 : decode cX5_init 179 = .ok (.invokespecial 71, 3) := by decide +kernel
theorem dX5_init_182 : decode cX5_init 182 = .ok (.aastore, 1) := by decide +kernel
theorem dX5_init_183 : decode cX5_init 183 = .ok (.iinc 1 1, 3) := by decide +kernel
theorem dX5_init_186 : decode cX5_init 186 = .ok (.goto (-21), 3) := by decide +kernel
theorem dX5_init_189 : decode cX5_init 189 = .ok (.return_, 1) := by decide +kernel
theorem dX5_token_0 : decode cX5_token 0 = .ok (.iload_n 1, 1) := by decide +kernel
theorem dX5_token_1 : decode cX5_token 1 = .ok (.ifCond .lt 9, 3) := by decide +kernel
theorem dX5_token_4 : decode cX5_token 4 = .ok (.iload_n 1, 1) := by decide +kernel
theorem dX5_token_5 : decode cX5_token 5 = .ok (.bipush 30, 2) := by decide +kernel
theorem dX5_token_7 : decode cX5_token 7 = .ok (.if_icmp .lt 13, 3) := by decide +kernel
theorem dX5_token_10 : decode cX5_token 10 = .ok (.new 72, 3) := by decide +kernel
theorem dX5_token_13 : decode cX5_token 13 = .ok (.dup, 1) := by decide +kernel
theorem dX5_token_14 : decode cX5_token 14 = .ok (.ldc 74, 2) := by decide +kernel
theorem dX5_token_16 : decode cX5_token 16 = .ok (.invokespecial 76, 3) := by decide +kernel
theorem dX5_token_19 : decode cX5_token 19 = .ok (.athrow, 1) := by decide +kernel
theorem dX5_token_20 : decode cX5_token 20 = .ok (.aload_n 0, 1) := by decide +kernel
theorem dX5_token_21 : decode cX5_token 21 = .ok (.getfield 12, 3) := by decide +kernel
theorem dX5_token_24 : decode cX5_token 24 = .ok (.getfield 79, 3) := by decide +kernel
theorem dX5_token_27 : decode cX5_token 27 = .ok (.bipush 12, 2) := by decide +kernel
theorem dX5_token_29 : decode cX5_token 29 = .ok (.if_icmp .lt 13, 3) := by decide +kernel
theorem dX5_token_32 : decode cX5_token 32 = .ok (.new 82, 3) := by decide +kernel
theorem dX5_token_35 : decode cX5_token 35 = .ok (.dup, 1) := by decide +kernel
theorem dX5_token_36 : decode cX5_token 36 = .ok (.ldc 84, 2) := by decide +kernel
theorem dX5_token_38 : decode cX5_token 38 = .ok (.invokespecial 86, 3) := by decide +kernel
theorem dX5_token_41 : decode cX5_token 41 = .ok (.athrow, 1) := by decide +kernel
theorem dX5_token_42 : decode cX5_token 42 = .ok (.aload_n 0, 1) := by decide +kernel
theorem dX5_token_43 : decode cX5_token 43 = .ok (.getfield 12, 3) := by decide +kernel
theorem dX5_token_46 : decode cX5_token 46 = .ok (.iload_n 1, 1) := by decide +kernel
theorem dX5_token_47 : decode cX5_token 47 = .ok (.invokevirtual 87, 3) := by decide +kernel
theorem dX5_token_50 : decode cX5_token 50 = .ok (.aload_n 0, 1) := by decide +kernel
theorem dX5_token_51 : decode cX5_token 51 = .ok (.getfield 12, 3) := by decide +kernel
theorem dX5_token_54 : decode cX5_token 54 = .ok (.getfield 79, 3) := by decide +kernel
theorem dX5_token_57 : decode cX5_token 57 = .ok (.ireturn, 1) := by decide +kernel
theorem dX5_cut_0 : decode cX5_cut 0 = .ok (.iload_n 1, 1) := by decide +kernel
theorem dX5_cut_1 : decode cX5_cut 1 = .ok (.iconst 1, 1) := by decide +kernel
theorem dX5_cut_2 : decode cX5_cut 2 = .ok (.if_icmp .lt 9, 3) := by decide +kernel
theorem dX5_cut_5 : decode cX5_cut 5 = .ok (.iload_n 1, 1) := by decide +kernel
theorem dX5_cut_6 : decode cX5_cut 6 = .ok (.bipush 12, 2) := by decide +kernel
theorem dX5_cut_8 : decode cX5_cut 8 = .ok (.if_icmp .le 13, 3) := by decide +kernel
theorem dX5_cut_11 : decode cX5_cut 11 = .ok (.new 72, 3) := by decide +kernel
theorem dX5_cut_14 : decode cX5_cut 14 = .ok (.dup, 1) := by decide +kernel
theorem dX5_cut_15 : decode cX5_cut 15 = .ok (.ldc 91, 2) := by decide +kernel
theorem dX5_cut_17 : decode cX5_cut 17 = .ok (.invokespecial 76, 3) := by decide +kernel
theorem dX5_cut_20 : decode cX5_cut 20 = .ok (.athrow, 1) := by decide +kernel
theorem dX5_cut_21 : decode cX5_cut 21 = .ok (.aload_n 0, 1) := by decide +kernel
theorem dX5_cut_22 : decode cX5_cut 22 = .ok (.getfield 12, 3) := by decide +kernel
theorem dX5_cut_25 : decode cX5_cut 25 = .ok (.iload_n 1, 1) := by decide +kernel
theorem dX5_cut_26 : decode cX5_cut 26 = .ok (.invokevirtual 93, 3) := by decide +kernel
theorem dX5_cut_29 : decode cX5_cut 29 = .ok (.aload_n 0, 1) := by decide +kernel
theorem dX5_cut_30 : decode cX5_cut 30 = .ok (.getfield 12, 3) := by decide +kernel
theorem dX5_cut_33 : decode cX5_cut 33 = .ok (.getfield 79, 3) := by decide +kernel
theorem dX5_cut_36 : decode cX5_cut 36 = .ok (.ireturn, 1) := by decide +kernel
theorem dX5_copy_0 : decode cX5_copy 0 = .ok (.aload_n 0, 1) := by decide +kernel
theorem dX5_copy_1 : decode cX5_copy 1 = .ok (.iload_n 1, 1) := by decide +kernel
theorem dX5_copy_2 : decode cX5_copy 2 = .ok (.invokevirtual 96, 3) := by decide +kernel
theorem dX5_copy_5 : decode cX5_copy 5 = .ok (.iload_n 2, 1) := by decide +kernel
theorem dX5_copy_6 : decode cX5_copy 6 = .ok (.ifCond .lt 9, 3) := by decide +kernel
theorem dX5_copy_9 : decode cX5_copy 9 = .ok (.iload_n 2, 1) := by decide +kernel
theorem dX5_copy_10 : decode cX5_copy 10 = .ok (.bipush 10, 2) := by decide +kernel
theorem dX5_copy_12 : decode cX5_copy 12 = .ok (.if_icmp .lt 13, 3) := by decide +kernel
theorem dX5_copy_15 : decode cX5_copy 15 = .ok (.new 72, 3) := by decide +kernel
theorem dX5_copy_18 : decode cX5_copy 18 = .ok (.dup, 1) := by decide +kernel
theorem dX5_copy_19 : decode cX5_copy 19 = .ok (.ldc 99, 2) := by decide +kernel
theorem dX5_copy_21 : decode cX5_copy 21 = .ok (.invokespecial 76, 3) := by decide +kernel
theorem dX5_copy_24 : decode cX5_copy 24 = .ok (.athrow, 1) := by decide +kernel
theorem dX5_copy_25 : decode cX5_copy 25 = .ok (.aload_n 0, 1) := by decide +kernel
theorem dX5_copy_26 : decode cX5_copy 26 = .ok (.getfield 12, 3) := by decide +kernel
theorem dX5_copy_29 : decode cX5_copy 29 = .ok (.aload_n 0, 1) := by decide +kernel
theorem dX5_copy_30 : decode cX5_copy 30 = .ok (.getfield 18, 3) := by decide +kernel
theorem dX5_copy_33 : decode cX5_copy 33 = .ok (.iload_n 1, 1) := by decide +kernel
theorem dX5_copy_34 : decode cX5_copy 34 = .ok (.aaload, 1) := by decide +kernel
theorem dX5_copy_35 : decode cX5_copy 35 = .ok (.getfield 101, 3) := by decide +kernel
theorem dX5_copy_38 : decode cX5_copy 38 = .ok (.iload_n 2, 1) := by decide +kernel
theorem dX5_copy_39 : decode cX5_copy 39 = .ok (.invokevirtual 104, 3) := by decide +kernel
theorem dX5_copy_42 : decode cX5_copy 42 = .ok (.aload_n 0, 1) := by decide +kernel
theorem dX5_copy_43 : decode cX5_copy 43 = .ok (.getfield 12, 3) := by decide +kernel
theorem dX5_copy_46 : decode cX5_copy 46 = .ok (.getfield 79, 3) := by decide +kernel
theorem dX5_copy_49 : decode cX5_copy 49 = .ok (.ireturn, 1) := by decide +kernel
theorem dX5_keep_0 : decode cX5_keep 0 = .ok (.aload_n 0, 1) := by decide +kernel
theorem dX5_keep_1 : decode cX5_keep 1 = .ok (.getfield 12, 3) := by decide +kernel
theorem dX5_keep_4 : decode cX5_keep 4 = .ok (.getfield 79, 3) := by decide +kernel
theorem dX5_keep_7 : decode cX5_keep 7 = .ok (.iconst 4, 1) := by decide +kernel
theorem dX5_keep_8 : decode cX5_keep 8 = .ok (.if_icmp .ge 13, 3) := by decide +kernel
theorem dX5_keep_11 : decode cX5_keep 11 = .ok (.new 82, 3) := by decide +kernel
theorem dX5_keep_14 : decode cX5_keep 14 = .ok (.dup, 1) := by decide +kernel
theorem dX5_keep_15 : decode cX5_keep 15 = .ok (.ldc 108, 2) := by decide +kernel
theorem dX5_keep_17 : decode cX5_keep 17 = .ok (.invokespecial 86, 3) := by decide +kernel
theorem dX5_keep_20 : decode cX5_keep 20 = .ok (.athrow, 1) := by decide +kernel
theorem dX5_keep_21 : decode cX5_keep 21 = .ok (.aload_n 0, 1) := by decide +kernel
theorem dX5_keep_22 : decode cX5_keep 22 = .ok (.getfield 53, 3) := by decide +kernel
theorem dX5_keep_25 : decode cX5_keep 25 = .ok (.bipush 16, 2) := by decide +kernel
theorem dX5_keep_27 : decode cX5_keep 27 = .ok (.if_icmp .lt 13, 3) := by decide +kernel
theorem dX5_keep_30 : decode cX5_keep 30 = .ok (.new 82, 3) := by decide +kernel
theorem dX5_keep_33 : decode cX5_keep 33 = .ok (.dup, 1) := by decide +kernel
theorem dX5_keep_34 : decode cX5_keep 34 = .ok (.ldc 110, 2) := by decide +kernel
theorem dX5_keep_36 : decode cX5_keep 36 = .ok (.invokespecial 86, 3) := by decide +kernel
theorem dX5_keep_39 : decode cX5_keep 39 = .ok (.athrow, 1) := by decide +kernel
theorem dX5_keep_40 : decode cX5_keep 40 = .ok (.aload_n 0, 1) := by decide +kernel
theorem dX5_keep_41 : decode cX5_keep 41 = .ok (.getfield 53, 3) := by decide +kernel
theorem dX5_keep_44 : decode cX5_keep 44 = .ok (.istore_n 1, 1) := by decide +kernel
theorem dX5_keep_45 : decode cX5_keep 45 = .ok (.aload_n 0, 1) := by decide +kernel
theorem dX5_keep_46 : decode cX5_keep 46 = .ok (.getfield 18, 3) := by decide +kernel
theorem dX5_keep_49 : decode cX5_keep 49 = .ok (.iload_n 1, 1) := by decide +kernel
theorem dX5_keep_50 : decode cX5_keep 50 = .ok (.aaload, 1) := by decide +kernel
theorem dX5_keep_51 : decode cX5_keep 51 = .ok (.getfield 101, 3) := by decide +kernel
theorem dX5_keep_54 : decode cX5_keep 54 = .ok (.aload_n 0, 1) := by decide +kernel
theorem dX5_keep_55 : decode cX5_keep 55 = .ok (.getfield 12, 3) := by decide +kernel
theorem dX5_keep_58 : decode cX5_keep 58 = .ok (.iconst 0, 1) := by decide +kernel
theorem dX5_keep_59 : decode cX5_keep 59 = .ok (.invokevirtual 104, 3) := by decide +kernel
theorem dX5_keep_62 : decode cX5_keep 62 = .ok (.aload_n 0, 1) := by decide +kernel
theorem dX5_keep_63 : decode cX5_keep 63 = .ok (.iload_n 1, 1) := by decide +kernel
theorem dX5_keep_64 : decode cX5_keep 64 = .ok (.iconst 1, 1) := by decide +kernel
theorem dX5_keep_65 : decode cX5_keep 65 = .ok (.iadd, 1) := by decide +kernel
theorem dX5_keep_66 : decode cX5_keep 66 = .ok (.putfield 53, 3) := by decide +kernel
theorem dX5_keep_69 : decode cX5_keep 69 = .ok (.aload_n 0, 1) := by decide +kernel
theorem dX5_keep_70 : decode cX5_keep 70 = .ok (.iload_n 1, 1) := by decide +kernel
theorem dX5_keep_71 : decode cX5_keep 71 = .ok (.invokevirtual 112, 3) := by decide +kernel
theorem dX5_keep_74 : decode cX5_keep 74 = .ok (.aload_n 0, 1) := by decide +kernel
theorem dX5_keep_75 : decode cX5_keep 75 = .ok (.invokevirtual 115, 3) := by decide +kernel
theorem dX5_keep_78 : decode cX5_keep 78 = .ok (.pop, 1) := by decide +kernel
theorem dX5_keep_79 : decode cX5_keep 79 = .ok (.iload_n 1, 1) := by decide +kernel
theorem dX5_keep_80 : decode cX5_keep 80 = .ok (.ireturn, 1) := by decide +kernel
theorem dX5_scan_0 : decode cX5_scan 0 = .ok (.aload_n 0, 1) := by decide +kernel
theorem dX5_scan_1 : decode cX5_scan 1 = .ok (.iload_n 1, 1) := by decide +kernel
theorem dX5_scan_2 : decode cX5_scan 2 = .ok (.invokevirtual 96, 3) := by decide +kernel
theorem dX5_scan_5 : decode cX5_scan 5 = .ok (.aload_n 0, 1) := by decide +kernel
theorem dX5_scan_6 : decode cX5_scan 6 = .ok (.getfield 12, 3) := by decide +kernel
theorem dX5_scan_9 : decode cX5_scan 9 = .ok (.aload_n 0, 1) := by decide +kernel
theorem dX5_scan_10 : decode cX5_scan 10 = .ok (.getfield 18, 3) := by decide +kernel
theorem dX5_scan_13 : decode cX5_scan 13 = .ok (.iload_n 1, 1) := by decide +kernel
theorem dX5_scan_14 : decode cX5_scan 14 = .ok (.aaload, 1) := by decide +kernel
theorem dX5_scan_15 : decode cX5_scan 15 = .ok (.getfield 101, 3) := by decide +kernel
theorem dX5_scan_18 : decode cX5_scan 18 = .ok (.invokevirtual 127, 3) := by decide +kernel
theorem dX5_scan_21 : decode cX5_scan 21 = .ok (.ireturn, 1) := by decide +kernel
theorem dX5_share_0 : decode cX5_share 0 = .ok (.aload_n 0, 1) := by decide +kernel
theorem dX5_share_1 : decode cX5_share 1 = .ok (.iload_n 1, 1) := by decide +kernel
theorem dX5_share_2 : decode cX5_share 2 = .ok (.invokevirtual 96, 3) := by decide +kernel
theorem dX5_share_5 : decode cX5_share 5 = .ok (.aload_n 0, 1) := by decide +kernel
theorem dX5_share_6 : decode cX5_share 6 = .ok (.iload_n 2, 1) := by decide +kernel
theorem dX5_share_7 : decode cX5_share 7 = .ok (.invokevirtual 96, 3) := by decide +kernel
theorem dX5_share_10 : decode cX5_share 10 = .ok (.aload_n 0, 1) := by decide +kernel
theorem dX5_share_11 : decode cX5_share 11 = .ok (.getfield 24, 3) := by decide +kernel
theorem dX5_share_14 : decode cX5_share 14 = .ok (.iload_n 1, 1) := by decide +kernel
theorem dX5_share_15 : decode cX5_share 15 = .ok (.aaload, 1) := by decide +kernel
theorem dX5_share_16 : decode cX5_share 16 = .ok (.iload_n 2, 1) := by decide +kernel
theorem dX5_share_17 : decode cX5_share 17 = .ok (.iaload, 1) := by decide +kernel
theorem dX5_share_18 : decode cX5_share 18 = .ok (.ireturn, 1) := by decide +kernel
theorem dX5_ofPiece_0 : decode cX5_ofPiece 0 = .ok (.aload_n 0, 1) := by decide +kernel
theorem dX5_ofPiece_1 : decode cX5_ofPiece 1 = .ok (.iload_n 1, 1) := by decide +kernel
theorem dX5_ofPiece_2 : decode cX5_ofPiece 2 = .ok (.invokevirtual 96, 3) := by decide +kernel
theorem dX5_ofPiece_5 : decode cX5_ofPiece 5 = .ok (.aload_n 0, 1) := by decide +kernel
theorem dX5_ofPiece_6 : decode cX5_ofPiece 6 = .ok (.getfield 18, 3) := by decide +kernel
theorem dX5_ofPiece_9 : decode cX5_ofPiece 9 = .ok (.iload_n 1, 1) := by decide +kernel
theorem dX5_ofPiece_10 : decode cX5_ofPiece 10 = .ok (.aaload, 1) := by decide +kernel
theorem dX5_ofPiece_11 : decode cX5_ofPiece 11 = .ok (.astore_n 3, 1) := by decide +kernel
theorem dX5_ofPiece_12 : decode cX5_ofPiece 12 = .ok (.iload_n 2, 1) := by decide +kernel
theorem dX5_ofPiece_13 : decode cX5_ofPiece 13 = .ok (.tableswitch 101 0 7 #[47, 55, 63, 68, 77, 82, 89, 95], 47) := by decide +kernel
theorem dX5_ofPiece_60 : decode cX5_ofPiece 60 = .ok (.aload_n 3, 1) := by decide +kernel
theorem dX5_ofPiece_61 : decode cX5_ofPiece 61 = .ok (.getfield 101, 3) := by decide +kernel
theorem dX5_ofPiece_64 : decode cX5_ofPiece 64 = .ok (.getfield 79, 3) := by decide +kernel
theorem dX5_ofPiece_67 : decode cX5_ofPiece 67 = .ok (.ireturn, 1) := by decide +kernel
theorem dX5_ofPiece_68 : decode cX5_ofPiece 68 = .ok (.aload_n 3, 1) := by decide +kernel
theorem dX5_ofPiece_69 : decode cX5_ofPiece 69 = .ok (.getfield 101, 3) := by decide +kernel
theorem dX5_ofPiece_72 : decode cX5_ofPiece 72 = .ok (.getfield 131, 3) := by decide +kernel
theorem dX5_ofPiece_75 : decode cX5_ofPiece 75 = .ok (.ireturn, 1) := by decide +kernel
theorem dX5_ofPiece_76 : decode cX5_ofPiece 76 = .ok (.aload_n 3, 1) := by decide +kernel
theorem dX5_ofPiece_77 : decode cX5_ofPiece 77 = .ok (.getfield 134, 3) := by decide +kernel
theorem dX5_ofPiece_80 : decode cX5_ofPiece 80 = .ok (.ireturn, 1) := by decide +kernel
theorem dX5_ofPiece_81 : decode cX5_ofPiece 81 = .ok (.aload_n 0, 1) := by decide +kernel
theorem dX5_ofPiece_82 : decode cX5_ofPiece 82 = .ok (.getfield 46, 3) := by decide +kernel
theorem dX5_ofPiece_85 : decode cX5_ofPiece 85 = .ok (.iload_n 1, 1) := by decide +kernel
theorem dX5_ofPiece_86 : decode cX5_ofPiece 86 = .ok (.invokevirtual 137, 3) := by decide +kernel
theorem dX5_ofPiece_89 : decode cX5_ofPiece 89 = .ok (.ireturn, 1) := by decide +kernel
theorem dX5_ofPiece_90 : decode cX5_ofPiece 90 = .ok (.aload_n 3, 1) := by decide +kernel
theorem dX5_ofPiece_91 : decode cX5_ofPiece 91 = .ok (.getfield 141, 3) := by decide +kernel
theorem dX5_ofPiece_94 : decode cX5_ofPiece 94 = .ok (.ireturn, 1) := by decide +kernel
theorem dX5_ofPiece_95 : decode cX5_ofPiece 95 = .ok (.aload_n 0, 1) := by decide +kernel
theorem dX5_ofPiece_96 : decode cX5_ofPiece 96 = .ok (.getfield 27, 3) := by decide +kernel
theorem dX5_ofPiece_99 : decode cX5_ofPiece 99 = .ok (.iload_n 1, 1) := by decide +kernel
theorem dX5_ofPiece_100 : decode cX5_ofPiece 100 = .ok (.iaload, 1) := by decide +kernel
theorem dX5_ofPiece_101 : decode cX5_ofPiece 101 = .ok (.ireturn, 1) := by decide +kernel
theorem dX5_ofPiece_102 : decode cX5_ofPiece 102 = .ok (.aload_n 0, 1) := by decide +kernel
theorem dX5_ofPiece_103 : decode cX5_ofPiece 103 = .ok (.iload_n 1, 1) := by decide +kernel
theorem dX5_ofPiece_104 : decode cX5_ofPiece 104 = .ok (.invokevirtual 144, 3) := by decide +kernel
theorem dX5_ofPiece_107 : decode cX5_ofPiece 107 = .ok (.ireturn, 1) := by decide +kernel
theorem dX5_ofPiece_108 : decode cX5_ofPiece 108 = .ok (.aload_n 0, 1) := by decide +kernel
theorem dX5_ofPiece_109 : decode cX5_ofPiece 109 = .ok (.iload_n 1, 1) := by decide +kernel
theorem dX5_ofPiece_110 : decode cX5_ofPiece 110 = .ok (.invokevirtual 147, 3) := by decide +kernel
theorem dX5_ofPiece_113 : decode cX5_ofPiece 113 = .ok (.ireturn, 1) := by decide +kernel
theorem dX5_ofPiece_114 : decode cX5_ofPiece 114 = .ok (.new 72, 3) := by decide +kernel
theorem dX5_ofPiece_117 : decode cX5_ofPiece 117 = .ok (.dup, 1) := by decide +kernel
theorem dX5_ofPiece_118 : decode cX5_ofPiece 118 = .ok (.ldc 150, 2) := by decide +kernel
theorem dX5_ofPiece_120 : decode cX5_ofPiece 120 = .ok (.invokespecial 76, 3) := by decide +kernel
theorem dX5_ofPiece_123 : decode cX5_ofPiece 123 = .ok (.athrow, 1) := by decide +kernel
theorem dX5_licence_0 : decode cX5_licence 0 = .ok (.iload_n 1, 1) := by decide +kernel
theorem dX5_licence_1 : decode cX5_licence 1 = .ok (.ifCond .lt 19, 3) := by decide +kernel
theorem dX5_licence_4 : decode cX5_licence 4 = .ok (.iload_n 1, 1) := by decide +kernel
theorem dX5_licence_5 : decode cX5_licence 5 = .ok (.bipush 32, 2) := by decide +kernel
theorem dX5_licence_7 : decode cX5_licence 7 = .ok (.if_icmp .ge 13, 3) := by decide +kernel
theorem dX5_licence_10 : decode cX5_licence 10 = .ok (.iload_n 2, 1) := by decide +kernel
theorem dX5_licence_11 : decode cX5_licence 11 = .ok (.ifCond .lt 9, 3) := by decide +kernel
theorem dX5_licence_14 : decode cX5_licence 14 = .ok (.iload_n 2, 1) := by decide +kernel
theorem dX5_licence_15 : decode cX5_licence 15 = .ok (.bipush 32, 2) := by decide +kernel
theorem dX5_licence_17 : decode cX5_licence 17 = .ok (.if_icmp .lt 13, 3) := by decide +kernel
theorem dX5_licence_20 : decode cX5_licence 20 = .ok (.new 72, 3) := by decide +kernel
theorem dX5_licence_23 : decode cX5_licence 23 = .ok (.dup, 1) := by decide +kernel
theorem dX5_licence_24 : decode cX5_licence 24 = .ok (.ldc 155, 2) := by decide +kernel
theorem dX5_licence_26 : decode cX5_licence 26 = .ok (.invokespecial 76, 3) := by decide +kernel
theorem dX5_licence_29 : decode cX5_licence 29 = .ok (.athrow, 1) := by decide +kernel
theorem dX5_licence_30 : decode cX5_licence 30 = .ok (.iload 4, 2) := by decide +kernel
theorem dX5_licence_32 : decode cX5_licence 32 = .ok (.ifCond .lt 9, 3) := by decide +kernel
theorem dX5_licence_35 : decode cX5_licence 35 = .ok (.iload 4, 2) := by decide +kernel
theorem dX5_licence_37 : decode cX5_licence 37 = .ok (.iconst 5, 1) := by decide +kernel
theorem dX5_licence_38 : decode cX5_licence 38 = .ok (.if_icmp .le 13, 3) := by decide +kernel
theorem dX5_licence_41 : decode cX5_licence 41 = .ok (.new 72, 3) := by decide +kernel
theorem dX5_licence_44 : decode cX5_licence 44 = .ok (.dup, 1) := by decide +kernel
theorem dX5_licence_45 : decode cX5_licence 45 = .ok (.ldc 157, 2) := by decide +kernel
theorem dX5_licence_47 : decode cX5_licence 47 = .ok (.invokespecial 76, 3) := by decide +kernel
theorem dX5_licence_50 : decode cX5_licence 50 = .ok (.athrow, 1) := by decide +kernel
theorem dX5_licence_51 : decode cX5_licence 51 = .ok (.aload_n 0, 1) := by decide +kernel
theorem dX5_licence_52 : decode cX5_licence 52 = .ok (.getfield 57, 3) := by decide +kernel
theorem dX5_licence_55 : decode cX5_licence 55 = .ok (.bipush 6, 2) := by decide +kernel
theorem dX5_licence_57 : decode cX5_licence 57 = .ok (.if_icmp .lt 13, 3) := by decide +kernel
theorem dX5_licence_60 : decode cX5_licence 60 = .ok (.new 82, 3) := by decide +kernel
theorem dX5_licence_63 : decode cX5_licence 63 = .ok (.dup, 1) := by decide +kernel
theorem dX5_licence_64 : decode cX5_licence 64 = .ok (.ldc 159, 2) := by decide +kernel
theorem dX5_licence_66 : decode cX5_licence 66 = .ok (.invokespecial 86, 3) := by decide +kernel
theorem dX5_licence_69 : decode cX5_licence 69 = .ok (.athrow, 1) := by decide +kernel
theorem dX5_licence_70 : decode cX5_licence 70 = .ok (.aload_n 0, 1) := by decide +kernel
theorem dX5_licence_71 : decode cX5_licence 71 = .ok (.getfield 57, 3) := by decide +kernel
theorem dX5_licence_74 : decode cX5_licence 74 = .ok (.istore 5, 2) := by decide +kernel
theorem dX5_licence_76 : decode cX5_licence 76 = .ok (.aload_n 0, 1) := by decide +kernel
theorem dX5_licence_77 : decode cX5_licence 77 = .ok (.getfield 33, 3) := by decide +kernel
theorem dX5_licence_80 : decode cX5_licence 80 = .ok (.iload 5, 2) := by decide +kernel
theorem dX5_licence_82 : decode cX5_licence 82 = .ok (.aaload, 1) := by decide +kernel
theorem dX5_licence_83 : decode cX5_licence 83 = .ok (.astore 6, 2) := by decide +kernel
theorem dX5_licence_85 : decode cX5_licence 85 = .ok (.aload 6, 2) := by decide +kernel
theorem dX5_licence_87 : decode cX5_licence 87 = .ok (.iload_n 1, 1) := by decide +kernel
theorem dX5_licence_88 : decode cX5_licence 88 = .ok (.putfield 161, 3) := by decide +kernel
theorem dX5_licence_91 : decode cX5_licence 91 = .ok (.aload 6, 2) := by decide +kernel
theorem dX5_licence_93 : decode cX5_licence 93 = .ok (.iload_n 2, 1) := by decide +kernel
theorem dX5_licence_94 : decode cX5_licence 94 = .ok (.putfield 164, 3) := by decide +kernel
theorem dX5_licence_97 : decode cX5_licence 97 = .ok (.aload 6, 2) := by decide +kernel
theorem dX5_licence_99 : decode cX5_licence 99 = .ok (.iload_n 3, 1) := by decide +kernel
theorem dX5_licence_100 : decode cX5_licence 100 = .ok (.putfield 167, 3) := by decide +kernel
theorem dX5_licence_103 : decode cX5_licence 103 = .ok (.aload 6, 2) := by decide +kernel
theorem dX5_licence_105 : decode cX5_licence 105 = .ok (.iload 4, 2) := by decide +kernel
theorem dX5_licence_107 : decode cX5_licence 107 = .ok (.putfield 171, 3) := by decide +kernel
theorem dX5_licence_110 : decode cX5_licence 110 = .ok (.aload_n 0, 1) := by decide +kernel
theorem dX5_licence_111 : decode cX5_licence 111 = .ok (.iload 5, 2) := by decide +kernel
theorem dX5_licence_113 : decode cX5_licence 113 = .ok (.iconst 1, 1) := by decide +kernel
theorem dX5_licence_114 : decode cX5_licence 114 = .ok (.iadd, 1) := by decide +kernel
theorem dX5_licence_115 : decode cX5_licence 115 = .ok (.putfield 57, 3) := by decide +kernel
theorem dX5_licence_118 : decode cX5_licence 118 = .ok (.aload_n 0, 1) := by decide +kernel
theorem dX5_licence_119 : decode cX5_licence 119 = .ok (.iload 5, 2) := by decide +kernel
theorem dX5_licence_121 : decode cX5_licence 121 = .ok (.invokevirtual 174, 3) := by decide +kernel
theorem dX5_licence_124 : decode cX5_licence 124 = .ok (.aload_n 0, 1) := by decide +kernel
theorem dX5_licence_125 : decode cX5_licence 125 = .ok (.invokevirtual 115, 3) := by decide +kernel
theorem dX5_licence_128 : decode cX5_licence 128 = .ok (.pop, 1) := by decide +kernel
theorem dX5_licence_129 : decode cX5_licence 129 = .ok (.iload 5, 2) := by decide +kernel
theorem dX5_licence_131 : decode cX5_licence 131 = .ok (.ireturn, 1) := by decide +kernel
theorem dX5_ofLicence_0 : decode cX5_ofLicence 0 = .ok (.aload_n 0, 1) := by decide +kernel
theorem dX5_ofLicence_1 : decode cX5_ofLicence 1 = .ok (.iload_n 1, 1) := by decide +kernel
theorem dX5_ofLicence_2 : decode cX5_ofLicence 2 = .ok (.invokevirtual 177, 3) := by decide +kernel
theorem dX5_ofLicence_5 : decode cX5_ofLicence 5 = .ok (.aload_n 0, 1) := by decide +kernel
theorem dX5_ofLicence_6 : decode cX5_ofLicence 6 = .ok (.getfield 33, 3) := by decide +kernel
theorem dX5_ofLicence_9 : decode cX5_ofLicence 9 = .ok (.iload_n 1, 1) := by decide +kernel
theorem dX5_ofLicence_10 : decode cX5_ofLicence 10 = .ok (.aaload, 1) := by decide +kernel
theorem dX5_ofLicence_11 : decode cX5_ofLicence 11 = .ok (.astore_n 3, 1) := by decide +kernel
theorem dX5_ofLicence_12 : decode cX5_ofLicence 12 = .ok (.iload_n 2, 1) := by decide +kernel
theorem dX5_ofLicence_13 : decode cX5_ofLicence 13 = .ok (.tableswitch 78 0 5 #[39, 44, 49, 62, 67, 72], 39) := by decide +kernel
theorem dX5_ofLicence_52 : decode cX5_ofLicence 52 = .ok (.aload_n 3, 1) := by decide +kernel
theorem dX5_ofLicence_53 : decode cX5_ofLicence 53 = .ok (.getfield 161, 3) := by decide +kernel
theorem dX5_ofLicence_56 : decode cX5_ofLicence 56 = .ok (.ireturn, 1) := by decide +kernel
theorem dX5_ofLicence_57 : decode cX5_ofLicence 57 = .ok (.aload_n 3, 1) := by decide +kernel
theorem dX5_ofLicence_58 : decode cX5_ofLicence 58 = .ok (.getfield 164, 3) := by decide +kernel
theorem dX5_ofLicence_61 : decode cX5_ofLicence 61 = .ok (.ireturn, 1) := by decide +kernel
theorem dX5_ofLicence_62 : decode cX5_ofLicence 62 = .ok (.aload_n 3, 1) := by decide +kernel
theorem dX5_ofLicence_63 : decode cX5_ofLicence 63 = .ok (.getfield 167, 3) := by decide +kernel
theorem dX5_ofLicence_66 : decode cX5_ofLicence 66 = .ok (.ifCond .eq 7, 3) := by decide +kernel
theorem dX5_ofLicence_69 : decode cX5_ofLicence 69 = .ok (.iconst 1, 1) := by decide +kernel
theorem dX5_ofLicence_70 : decode cX5_ofLicence 70 = .ok (.goto 4, 3) := by decide +kernel
theorem dX5_ofLicence_73 : decode cX5_ofLicence 73 = .ok (.iconst 0, 1) := by decide +kernel
theorem dX5_ofLicence_74 : decode cX5_ofLicence 74 = .ok (.ireturn, 1) := by decide +kernel
theorem dX5_ofLicence_75 : decode cX5_ofLicence 75 = .ok (.aload_n 3, 1) := by decide +kernel
theorem dX5_ofLicence_76 : decode cX5_ofLicence 76 = .ok (.getfield 171, 3) := by decide +kernel
theorem dX5_ofLicence_79 : decode cX5_ofLicence 79 = .ok (.ireturn, 1) := by decide +kernel
theorem dX5_ofLicence_80 : decode cX5_ofLicence 80 = .ok (.aload_n 3, 1) := by decide +kernel
theorem dX5_ofLicence_81 : decode cX5_ofLicence 81 = .ok (.getfield 180, 3) := by decide +kernel
theorem dX5_ofLicence_84 : decode cX5_ofLicence 84 = .ok (.ireturn, 1) := by decide +kernel
theorem dX5_ofLicence_85 : decode cX5_ofLicence 85 = .ok (.aload_n 0, 1) := by decide +kernel
theorem dX5_ofLicence_86 : decode cX5_ofLicence 86 = .ok (.iload_n 1, 1) := by decide +kernel
theorem dX5_ofLicence_87 : decode cX5_ofLicence 87 = .ok (.invokevirtual 183, 3) := by decide +kernel
theorem dX5_ofLicence_90 : decode cX5_ofLicence 90 = .ok (.ireturn, 1) := by decide +kernel
theorem dX5_ofLicence_91 : decode cX5_ofLicence 91 = .ok (.new 72, 3) := by decide +kernel
theorem dX5_ofLicence_94 : decode cX5_ofLicence 94 = .ok (.dup, 1) := by decide +kernel
theorem dX5_ofLicence_95 : decode cX5_ofLicence 95 = .ok (.ldc 186, 2) := by decide +kernel
theorem dX5_ofLicence_97 : decode cX5_ofLicence 97 = .ok (.invokespecial 76, 3) := by decide +kernel
theorem dX5_ofLicence_100 : decode cX5_ofLicence 100 = .ok (.athrow, 1) := by decide +kernel
theorem dX5_tell_0 : decode cX5_tell 0 = .ok (.aload_n 0, 1) := by decide +kernel
theorem dX5_tell_1 : decode cX5_tell 1 = .ok (.iload_n 1, 1) := by decide +kernel
theorem dX5_tell_2 : decode cX5_tell 2 = .ok (.invokevirtual 96, 3) := by decide +kernel
theorem dX5_tell_5 : decode cX5_tell 5 = .ok (.iload_n 2, 1) := by decide +kernel
theorem dX5_tell_6 : decode cX5_tell 6 = .ok (.iconst (-1), 1) := by decide +kernel
theorem dX5_tell_7 : decode cX5_tell 7 = .ok (.if_icmp .eq 8, 3) := by decide +kernel
theorem dX5_tell_10 : decode cX5_tell 10 = .ok (.aload_n 0, 1) := by decide +kernel
theorem dX5_tell_11 : decode cX5_tell 11 = .ok (.iload_n 2, 1) := by decide +kernel
theorem dX5_tell_12 : decode cX5_tell 12 = .ok (.invokevirtual 177, 3) := by decide +kernel
theorem dX5_tell_15 : decode cX5_tell 15 = .ok (.aload_n 0, 1) := by decide +kernel
theorem dX5_tell_16 : decode cX5_tell 16 = .ok (.getfield 18, 3) := by decide +kernel
theorem dX5_tell_19 : decode cX5_tell 19 = .ok (.iload_n 1, 1) := by decide +kernel
theorem dX5_tell_20 : decode cX5_tell 20 = .ok (.aaload, 1) := by decide +kernel
theorem dX5_tell_21 : decode cX5_tell 21 = .ok (.iload_n 2, 1) := by decide +kernel
theorem dX5_tell_22 : decode cX5_tell 22 = .ok (.putfield 134, 3) := by decide +kernel
theorem dX5_tell_25 : decode cX5_tell 25 = .ok (.aload_n 0, 1) := by decide +kernel
theorem dX5_tell_26 : decode cX5_tell 26 = .ok (.invokevirtual 115, 3) := by decide +kernel
theorem dX5_tell_29 : decode cX5_tell 29 = .ok (.ireturn, 1) := by decide +kernel
theorem dX5_ask_0 : decode cX5_ask 0 = .ok (.aload_n 0, 1) := by decide +kernel
theorem dX5_ask_1 : decode cX5_ask 1 = .ok (.iload_n 1, 1) := by decide +kernel
theorem dX5_ask_2 : decode cX5_ask 2 = .ok (.invokevirtual 96, 3) := by decide +kernel
theorem dX5_ask_5 : decode cX5_ask 5 = .ok (.aload_n 0, 1) := by decide +kernel
theorem dX5_ask_6 : decode cX5_ask 6 = .ok (.iload_n 2, 1) := by decide +kernel
theorem dX5_ask_7 : decode cX5_ask 7 = .ok (.invokevirtual 177, 3) := by decide +kernel
theorem dX5_ask_10 : decode cX5_ask 10 = .ok (.aload_n 0, 1) := by decide +kernel
theorem dX5_ask_11 : decode cX5_ask 11 = .ok (.getfield 46, 3) := by decide +kernel
theorem dX5_ask_14 : decode cX5_ask 14 = .ok (.iload_n 1, 1) := by decide +kernel
theorem dX5_ask_15 : decode cX5_ask 15 = .ok (.invokevirtual 137, 3) := by decide +kernel
theorem dX5_ask_18 : decode cX5_ask 18 = .ok (.iload_n 2, 1) := by decide +kernel
theorem dX5_ask_19 : decode cX5_ask 19 = .ok (.invokestatic 188, 3) := by decide +kernel
theorem dX5_ask_22 : decode cX5_ask 22 = .ok (.ifCond .ne 13, 3) := by decide +kernel
theorem dX5_ask_25 : decode cX5_ask 25 = .ok (.new 82, 3) := by decide +kernel
theorem dX5_ask_28 : decode cX5_ask 28 = .ok (.dup, 1) := by decide +kernel
theorem dX5_ask_29 : decode cX5_ask 29 = .ok (.ldc 192, 2) := by decide +kernel
theorem dX5_ask_31 : decode cX5_ask 31 = .ok (.invokespecial 86, 3) := by decide +kernel
theorem dX5_ask_34 : decode cX5_ask 34 = .ok (.athrow, 1) := by decide +kernel
theorem dX5_ask_35 : decode cX5_ask 35 = .ok (.aload_n 0, 1) := by decide +kernel
theorem dX5_ask_36 : decode cX5_ask 36 = .ok (.getfield 33, 3) := by decide +kernel
theorem dX5_ask_39 : decode cX5_ask 39 = .ok (.iload_n 2, 1) := by decide +kernel
theorem dX5_ask_40 : decode cX5_ask 40 = .ok (.aaload, 1) := by decide +kernel
theorem dX5_ask_41 : decode cX5_ask 41 = .ok (.astore_n 3, 1) := by decide +kernel
theorem dX5_ask_42 : decode cX5_ask 42 = .ok (.aload_n 3, 1) := by decide +kernel
theorem dX5_ask_43 : decode cX5_ask 43 = .ok (.getfield 171, 3) := by decide +kernel
theorem dX5_ask_46 : decode cX5_ask 46 = .ok (.ifCond .gt 5, 3) := by decide +kernel
theorem dX5_ask_49 : decode cX5_ask 49 = .ok (.iconst 0, 1) := by decide +kernel
theorem dX5_ask_50 : decode cX5_ask 50 = .ok (.ireturn, 1) := by decide +kernel
theorem dX5_ask_51 : decode cX5_ask 51 = .ok (.aload_n 3, 1) := by decide +kernel
theorem dX5_ask_52 : decode cX5_ask 52 = .ok (.dup, 1) := by decide +kernel
theorem dX5_ask_53 : decode cX5_ask 53 = .ok (.getfield 171, 3) := by decide +kernel
theorem dX5_ask_56 : decode cX5_ask 56 = .ok (.iconst 1, 1) := by decide +kernel
theorem dX5_ask_57 : decode cX5_ask 57 = .ok (.isub, 1) := by decide +kernel
theorem dX5_ask_58 : decode cX5_ask 58 = .ok (.putfield 171, 3) := by decide +kernel
theorem dX5_ask_61 : decode cX5_ask 61 = .ok (.aload_n 0, 1) := by decide +kernel
theorem dX5_ask_62 : decode cX5_ask 62 = .ok (.getfield 18, 3) := by decide +kernel
theorem dX5_ask_65 : decode cX5_ask 65 = .ok (.iload_n 1, 1) := by decide +kernel
theorem dX5_ask_66 : decode cX5_ask 66 = .ok (.aaload, 1) := by decide +kernel
theorem dX5_ask_67 : decode cX5_ask 67 = .ok (.dup, 1) := by decide +kernel
theorem dX5_ask_68 : decode cX5_ask 68 = .ok (.getfield 141, 3) := by decide +kernel
theorem dX5_ask_71 : decode cX5_ask 71 = .ok (.iconst 1, 1) := by decide +kernel
theorem dX5_ask_72 : decode cX5_ask 72 = .ok (.iload_n 2, 1) := by decide +kernel
theorem dX5_ask_73 : decode cX5_ask 73 = .ok (.ishl, 1) := by decide +kernel
theorem dX5_ask_74 : decode cX5_ask 74 = .ok (.ior, 1) := by decide +kernel
theorem dX5_ask_75 : decode cX5_ask 75 = .ok (.putfield 141, 3) := by decide +kernel
theorem dX5_ask_78 : decode cX5_ask 78 = .ok (.aload_n 0, 1) := by decide +kernel
theorem dX5_ask_79 : decode cX5_ask 79 = .ok (.dup, 1) := by decide +kernel
theorem dX5_ask_80 : decode cX5_ask 80 = .ok (.getfield 63, 3) := by decide +kernel
theorem dX5_ask_83 : decode cX5_ask 83 = .ok (.iconst 1, 1) := by decide +kernel
theorem dX5_ask_84 : decode cX5_ask 84 = .ok (.iadd, 1) := by decide +kernel
theorem dX5_ask_85 : decode cX5_ask 85 = .ok (.putfield 63, 3) := by decide +kernel
theorem dX5_ask_88 : decode cX5_ask 88 = .ok (.aload_n 0, 1) := by decide +kernel
theorem dX5_ask_89 : decode cX5_ask 89 = .ok (.invokevirtual 115, 3) := by decide +kernel
theorem dX5_ask_92 : decode cX5_ask 92 = .ok (.pop, 1) := by decide +kernel
theorem dX5_ask_93 : decode cX5_ask 93 = .ok (.iconst 1, 1) := by decide +kernel
theorem dX5_ask_94 : decode cX5_ask 94 = .ok (.ireturn, 1) := by decide +kernel
theorem dX5_project_0 : decode cX5_project 0 = .ok (.aload_n 0, 1) := by decide +kernel
theorem dX5_project_1 : decode cX5_project 1 = .ok (.getfield 60, 3) := by decide +kernel
theorem dX5_project_4 : decode cX5_project 4 = .ok (.iconst 5, 1) := by decide +kernel
theorem dX5_project_5 : decode cX5_project 5 = .ok (.if_icmp .lt 13, 3) := by decide +kernel
theorem dX5_project_8 : decode cX5_project 8 = .ok (.new 82, 3) := by decide +kernel
theorem dX5_project_11 : decode cX5_project 11 = .ok (.dup, 1) := by decide +kernel
theorem dX5_project_12 : decode cX5_project 12 = .ok (.ldc 194, 2) := by decide +kernel
theorem dX5_project_14 : decode cX5_project 14 = .ok (.invokespecial 86, 3) := by decide +kernel
theorem dX5_project_17 : decode cX5_project 17 = .ok (.athrow, 1) := by decide +kernel
theorem dX5_project_18 : decode cX5_project 18 = .ok (.aload_n 0, 1) := by decide +kernel
theorem dX5_project_19 : decode cX5_project 19 = .ok (.getfield 60, 3) := by decide +kernel
theorem dX5_project_22 : decode cX5_project 22 = .ok (.istore_n 1, 1) := by decide +kernel
theorem dX5_project_23 : decode cX5_project 23 = .ok (.aload_n 0, 1) := by decide +kernel
theorem dX5_project_24 : decode cX5_project 24 = .ok (.iload_n 1, 1) := by decide +kernel
theorem dX5_project_25 : decode cX5_project 25 = .ok (.iconst 1, 1) := by decide +kernel
theorem dX5_project_26 : decode cX5_project 26 = .ok (.iadd, 1) := by decide +kernel
theorem dX5_project_27 : decode cX5_project 27 = .ok (.putfield 60, 3) := by decide +kernel
theorem dX5_project_30 : decode cX5_project 30 = .ok (.iload_n 1, 1) := by decide +kernel
theorem dX5_project_31 : decode cX5_project 31 = .ok (.ireturn, 1) := by decide +kernel
theorem dX5_node_0 : decode cX5_node 0 = .ok (.aload_n 0, 1) := by decide +kernel
theorem dX5_node_1 : decode cX5_node 1 = .ok (.iload_n 1, 1) := by decide +kernel
theorem dX5_node_2 : decode cX5_node 2 = .ok (.iload_n 2, 1) := by decide +kernel
theorem dX5_node_3 : decode cX5_node 3 = .ok (.invokevirtual 196, 3) := by decide +kernel
theorem dX5_node_6 : decode cX5_node 6 = .ok (.iload_n 3, 1) := by decide +kernel
theorem dX5_node_7 : decode cX5_node 7 = .ok (.iconst (-1), 1) := by decide +kernel
theorem dX5_node_8 : decode cX5_node 8 = .ok (.if_icmp .eq 8, 3) := by decide +kernel
theorem dX5_node_11 : decode cX5_node 11 = .ok (.aload_n 0, 1) := by decide +kernel
theorem dX5_node_12 : decode cX5_node 12 = .ok (.iload_n 3, 1) := by decide +kernel
theorem dX5_node_13 : decode cX5_node 13 = .ok (.invokevirtual 96, 3) := by decide +kernel
theorem dX5_node_16 : decode cX5_node 16 = .ok (.aload_n 0, 1) := by decide +kernel
theorem dX5_node_17 : decode cX5_node 17 = .ok (.getfield 39, 3) := by decide +kernel
theorem dX5_node_20 : decode cX5_node 20 = .ok (.iload_n 1, 1) := by decide +kernel
theorem dX5_node_21 : decode cX5_node 21 = .ok (.aaload, 1) := by decide +kernel
theorem dX5_node_22 : decode cX5_node 22 = .ok (.invokevirtual 200, 3) := by decide +kernel
theorem dX5_node_25 : decode cX5_node 25 = .ok (.istore 4, 2) := by decide +kernel
theorem dX5_node_27 : decode cX5_node 27 = .ok (.iload 4, 2) := by decide +kernel
theorem dX5_node_29 : decode cX5_node 29 = .ok (.iconst (-1), 1) := by decide +kernel
theorem dX5_node_30 : decode cX5_node 30 = .ok (.if_icmp .ne 13, 3) := by decide +kernel
theorem dX5_node_33 : decode cX5_node 33 = .ok (.new 82, 3) := by decide +kernel
theorem dX5_node_36 : decode cX5_node 36 = .ok (.dup, 1) := by decide +kernel
theorem dX5_node_37 : decode cX5_node 37 = .ok (.ldc 203, 2) := by decide +kernel
theorem dX5_node_39 : decode cX5_node 39 = .ok (.invokespecial 86, 3) := by decide +kernel
theorem dX5_node_42 : decode cX5_node 42 = .ok (.athrow, 1) := by decide +kernel
theorem dX5_node_43 : decode cX5_node 43 = .ok (.aload_n 0, 1) := by decide +kernel
theorem dX5_node_44 : decode cX5_node 44 = .ok (.getfield 39, 3) := by decide +kernel
theorem dX5_node_47 : decode cX5_node 47 = .ok (.iload_n 1, 1) := by decide +kernel
theorem dX5_node_48 : decode cX5_node 48 = .ok (.aaload, 1) := by decide +kernel
theorem dX5_node_49 : decode cX5_node 49 = .ok (.iload 4, 2) := by decide +kernel
theorem dX5_node_51 : decode cX5_node 51 = .ok (.iload_n 2, 1) := by decide +kernel
theorem dX5_node_52 : decode cX5_node 52 = .ok (.iload_n 3, 1) := by decide +kernel
theorem dX5_node_53 : decode cX5_node 53 = .ok (.invokevirtual 205, 3) := by decide +kernel
theorem dX5_node_56 : decode cX5_node 56 = .ok (.aload_n 0, 1) := by decide +kernel
theorem dX5_node_57 : decode cX5_node 57 = .ok (.invokevirtual 115, 3) := by decide +kernel
theorem dX5_node_60 : decode cX5_node 60 = .ok (.pop, 1) := by decide +kernel
theorem dX5_node_61 : decode cX5_node 61 = .ok (.iload 4, 2) := by decide +kernel
theorem dX5_node_63 : decode cX5_node 63 = .ok (.ireturn, 1) := by decide +kernel
theorem dX5_replace_0 : decode cX5_replace 0 = .ok (.aload_n 0, 1) := by decide +kernel
theorem dX5_replace_1 : decode cX5_replace 1 = .ok (.iload_n 1, 1) := by decide +kernel
theorem dX5_replace_2 : decode cX5_replace 2 = .ok (.iload_n 2, 1) := by decide +kernel
theorem dX5_replace_3 : decode cX5_replace 3 = .ok (.invokevirtual 196, 3) := by decide +kernel
theorem dX5_replace_6 : decode cX5_replace 6 = .ok (.iload_n 3, 1) := by decide +kernel
theorem dX5_replace_7 : decode cX5_replace 7 = .ok (.iconst (-1), 1) := by decide +kernel
theorem dX5_replace_8 : decode cX5_replace 8 = .ok (.if_icmp .eq 8, 3) := by decide +kernel
theorem dX5_replace_11 : decode cX5_replace 11 = .ok (.aload_n 0, 1) := by decide +kernel
theorem dX5_replace_12 : decode cX5_replace 12 = .ok (.iload_n 3, 1) := by decide +kernel
theorem dX5_replace_13 : decode cX5_replace 13 = .ok (.invokevirtual 96, 3) := by decide +kernel
theorem dX5_replace_16 : decode cX5_replace 16 = .ok (.aload_n 0, 1) := by decide +kernel
theorem dX5_replace_17 : decode cX5_replace 17 = .ok (.getfield 39, 3) := by decide +kernel
theorem dX5_replace_20 : decode cX5_replace 20 = .ok (.iload_n 1, 1) := by decide +kernel
theorem dX5_replace_21 : decode cX5_replace 21 = .ok (.aaload, 1) := by decide +kernel
theorem dX5_replace_22 : decode cX5_replace 22 = .ok (.getfield 209, 3) := by decide +kernel
theorem dX5_replace_25 : decode cX5_replace 25 = .ok (.astore 4, 2) := by decide +kernel
theorem dX5_replace_27 : decode cX5_replace 27 = .ok (.aload 4, 2) := by decide +kernel
theorem dX5_replace_29 : decode cX5_replace 29 = .ok (.iload_n 2, 1) := by decide +kernel
theorem dX5_replace_30 : decode cX5_replace 30 = .ok (.iaload, 1) := by decide +kernel
theorem dX5_replace_31 : decode cX5_replace 31 = .ok (.istore 5, 2) := by decide +kernel
theorem dX5_replace_33 : decode cX5_replace 33 = .ok (.aload 4, 2) := by decide +kernel
theorem dX5_replace_35 : decode cX5_replace 35 = .ok (.iload_n 2, 1) := by decide +kernel
theorem dX5_replace_36 : decode cX5_replace 36 = .ok (.iload_n 3, 1) := by decide +kernel
theorem dX5_replace_37 : decode cX5_replace 37 = .ok (.iastore, 1) := by decide +kernel
theorem dX5_replace_38 : decode cX5_replace 38 = .ok (.aload_n 0, 1) := by decide +kernel
theorem dX5_replace_39 : decode cX5_replace 39 = .ok (.invokevirtual 115, 3) := by decide +kernel
theorem dX5_replace_42 : decode cX5_replace 42 = .ok (.pop, 1) := by decide +kernel
theorem dX5_replace_43 : decode cX5_replace 43 = .ok (.iload 5, 2) := by decide +kernel
theorem dX5_replace_45 : decode cX5_replace 45 = .ok (.ireturn, 1) := by decide +kernel
theorem dX5_ofNode_0 : decode cX5_ofNode 0 = .ok (.aload_n 0, 1) := by decide +kernel
theorem dX5_ofNode_1 : decode cX5_ofNode 1 = .ok (.iload_n 1, 1) := by decide +kernel
theorem dX5_ofNode_2 : decode cX5_ofNode 2 = .ok (.iload_n 2, 1) := by decide +kernel
theorem dX5_ofNode_3 : decode cX5_ofNode 3 = .ok (.invokevirtual 196, 3) := by decide +kernel
theorem dX5_ofNode_6 : decode cX5_ofNode 6 = .ok (.aload_n 0, 1) := by decide +kernel
theorem dX5_ofNode_7 : decode cX5_ofNode 7 = .ok (.getfield 39, 3) := by decide +kernel
theorem dX5_ofNode_10 : decode cX5_ofNode 10 = .ok (.iload_n 1, 1) := by decide +kernel
theorem dX5_ofNode_11 : decode cX5_ofNode 11 = .ok (.aaload, 1) := by decide +kernel
theorem dX5_ofNode_12 : decode cX5_ofNode 12 = .ok (.astore 4, 2) := by decide +kernel
theorem dX5_ofNode_14 : decode cX5_ofNode 14 = .ok (.iload_n 3, 1) := by decide +kernel
theorem dX5_ofNode_15 : decode cX5_ofNode 15 = .ok (.tableswitch 93 0 4 #[33, 41, 49, 64, 82], 33) := by decide +kernel
theorem dX5_ofNode_48 : decode cX5_ofNode 48 = .ok (.aload 4, 2) := by decide +kernel
theorem dX5_ofNode_50 : decode cX5_ofNode 50 = .ok (.getfield 217, 3) := by decide +kernel
theorem dX5_ofNode_53 : decode cX5_ofNode 53 = .ok (.iload_n 2, 1) := by decide +kernel
theorem dX5_ofNode_54 : decode cX5_ofNode 54 = .ok (.iaload, 1) := by decide +kernel
theorem dX5_ofNode_55 : decode cX5_ofNode 55 = .ok (.ireturn, 1) := by decide +kernel
theorem dX5_ofNode_56 : decode cX5_ofNode 56 = .ok (.aload 4, 2) := by decide +kernel
theorem dX5_ofNode_58 : decode cX5_ofNode 58 = .ok (.getfield 209, 3) := by decide +kernel
theorem dX5_ofNode_61 : decode cX5_ofNode 61 = .ok (.iload_n 2, 1) := by decide +kernel
theorem dX5_ofNode_62 : decode cX5_ofNode 62 = .ok (.iaload, 1) := by decide +kernel
theorem dX5_ofNode_63 : decode cX5_ofNode 63 = .ok (.ireturn, 1) := by decide +kernel
theorem dX5_ofNode_64 : decode cX5_ofNode 64 = .ok (.aload_n 0, 1) := by decide +kernel
theorem dX5_ofNode_65 : decode cX5_ofNode 65 = .ok (.getfield 46, 3) := by decide +kernel
theorem dX5_ofNode_68 : decode cX5_ofNode 68 = .ok (.aload 4, 2) := by decide +kernel
theorem dX5_ofNode_70 : decode cX5_ofNode 70 = .ok (.getfield 209, 3) := by decide +kernel
theorem dX5_ofNode_73 : decode cX5_ofNode 73 = .ok (.iload_n 2, 1) := by decide +kernel
theorem dX5_ofNode_74 : decode cX5_ofNode 74 = .ok (.iaload, 1) := by decide +kernel
theorem dX5_ofNode_75 : decode cX5_ofNode 75 = .ok (.invokevirtual 137, 3) := by decide +kernel
theorem dX5_ofNode_78 : decode cX5_ofNode 78 = .ok (.ireturn, 1) := by decide +kernel
theorem dX5_ofNode_79 : decode cX5_ofNode 79 = .ok (.aload 4, 2) := by decide +kernel
theorem dX5_ofNode_81 : decode cX5_ofNode 81 = .ok (.iload_n 2, 1) := by decide +kernel
theorem dX5_ofNode_82 : decode cX5_ofNode 82 = .ok (.aload 4, 2) := by decide +kernel
theorem dX5_ofNode_84 : decode cX5_ofNode 84 = .ok (.getfield 209, 3) := by decide +kernel
theorem dX5_ofNode_87 : decode cX5_ofNode 87 = .ok (.iload_n 2, 1) := by decide +kernel
theorem dX5_ofNode_88 : decode cX5_ofNode 88 = .ok (.iaload, 1) := by decide +kernel
theorem dX5_ofNode_89 : decode cX5_ofNode 89 = .ok (.aload_n 0, 1) := by decide +kernel
theorem dX5_ofNode_90 : decode cX5_ofNode 90 = .ok (.getfield 46, 3) := by decide +kernel
theorem dX5_ofNode_93 : decode cX5_ofNode 93 = .ok (.invokevirtual 220, 3) := by decide +kernel
theorem dX5_ofNode_96 : decode cX5_ofNode 96 = .ok (.ireturn, 1) := by decide +kernel
theorem dX5_ofNode_97 : decode cX5_ofNode 97 = .ok (.aload 4, 2) := by decide +kernel
theorem dX5_ofNode_99 : decode cX5_ofNode 99 = .ok (.getfield 224, 3) := by decide +kernel
theorem dX5_ofNode_102 : decode cX5_ofNode 102 = .ok (.iload_n 2, 1) := by decide +kernel
theorem dX5_ofNode_103 : decode cX5_ofNode 103 = .ok (.iaload, 1) := by decide +kernel
theorem dX5_ofNode_104 : decode cX5_ofNode 104 = .ok (.invokestatic 227, 3) := by decide +kernel
theorem dX5_ofNode_107 : decode cX5_ofNode 107 = .ok (.ireturn, 1) := by decide +kernel
theorem dX5_ofNode_108 : decode cX5_ofNode 108 = .ok (.new 72, 3) := by decide +kernel
theorem dX5_ofNode_111 : decode cX5_ofNode 111 = .ok (.dup, 1) := by decide +kernel
theorem dX5_ofNode_112 : decode cX5_ofNode 112 = .ok (.ldc 232, 2) := by decide +kernel
theorem dX5_ofNode_114 : decode cX5_ofNode 114 = .ok (.invokespecial 76, 3) := by decide +kernel
theorem dX5_ofNode_117 : decode cX5_ofNode 117 = .ok (.athrow, 1) := by decide +kernel
theorem dX5_notice_0 : decode cX5_notice 0 = .ok (.aload_n 0, 1) := by decide +kernel
theorem dX5_notice_1 : decode cX5_notice 1 = .ok (.iload_n 1, 1) := by decide +kernel
theorem dX5_notice_2 : decode cX5_notice 2 = .ok (.invokevirtual 234, 3) := by decide +kernel
theorem dX5_notice_5 : decode cX5_notice 5 = .ok (.iload_n 2, 1) := by decide +kernel
theorem dX5_notice_6 : decode cX5_notice 6 = .ok (.ifCond .lt 8, 3) := by decide +kernel
theorem dX5_notice_9 : decode cX5_notice 9 = .ok (.iload_n 2, 1) := by decide +kernel
theorem dX5_notice_10 : decode cX5_notice 10 = .ok (.iconst 5, 1) := by decide +kernel
theorem dX5_notice_11 : decode cX5_notice 11 = .ok (.if_icmp .lt 13, 3) := by decide +kernel
theorem dX5_notice_14 : decode cX5_notice 14 = .ok (.new 119, 3) := by decide +kernel
theorem dX5_notice_17 : decode cX5_notice 17 = .ok (.dup, 1) := by decide +kernel
theorem dX5_notice_18 : decode cX5_notice 18 = .ok (.ldc 237, 2) := by decide +kernel
theorem dX5_notice_20 : decode cX5_notice 20 = .ok (.invokespecial 123, 3) := by decide +kernel
theorem dX5_notice_23 : decode cX5_notice 23 = .ok (.athrow, 1) := by decide +kernel
theorem dX5_notice_24 : decode cX5_notice 24 = .ok (.aload_n 0, 1) := by decide +kernel
theorem dX5_notice_25 : decode cX5_notice 25 = .ok (.getfield 39, 3) := by decide +kernel
theorem dX5_notice_28 : decode cX5_notice 28 = .ok (.iload_n 1, 1) := by decide +kernel
theorem dX5_notice_29 : decode cX5_notice 29 = .ok (.aaload, 1) := by decide +kernel
theorem dX5_notice_30 : decode cX5_notice 30 = .ok (.astore 4, 2) := by decide +kernel
theorem dX5_notice_32 : decode cX5_notice 32 = .ok (.aload 4, 2) := by decide +kernel
theorem dX5_notice_34 : decode cX5_notice 34 = .ok (.getfield 239, 3) := by decide +kernel
theorem dX5_notice_37 : decode cX5_notice 37 = .ok (.iload_n 2, 1) := by decide +kernel
theorem dX5_notice_38 : decode cX5_notice 38 = .ok (.invokestatic 188, 3) := by decide +kernel
theorem dX5_notice_41 : decode cX5_notice 41 = .ok (.istore 5, 2) := by decide +kernel
theorem dX5_notice_43 : decode cX5_notice 43 = .ok (.iload_n 3, 1) := by decide +kernel
theorem dX5_notice_44 : decode cX5_notice 44 = .ok (.ifCond .eq 19, 3) := by decide +kernel
theorem dX5_notice_47 : decode cX5_notice 47 = .ok (.aload 4, 2) := by decide +kernel
theorem dX5_notice_49 : decode cX5_notice 49 = .ok (.dup, 1) := by decide +kernel
theorem dX5_notice_50 : decode cX5_notice 50 = .ok (.getfield 239, 3) := by decide +kernel
theorem dX5_notice_53 : decode cX5_notice 53 = .ok (.iconst 1, 1) := by decide +kernel
theorem dX5_notice_54 : decode cX5_notice 54 = .ok (.iload_n 2, 1) := by decide +kernel
theorem dX5_notice_55 : decode cX5_notice 55 = .ok (.ishl, 1) := by decide +kernel
theorem dX5_notice_56 : decode cX5_notice 56 = .ok (.ior, 1) := by decide +kernel
theorem dX5_notice_57 : decode cX5_notice 57 = .ok (.putfield 239, 3) := by decide +kernel
theorem dX5_notice_60 : decode cX5_notice 60 = .ok (.goto 18, 3) := by decide +kernel
theorem dX5_notice_63 : decode cX5_notice 63 = .ok (.aload 4, 2) := by decide +kernel
theorem dX5_notice_65 : decode cX5_notice 65 = .ok (.dup, 1) := by decide +kernel
theorem dX5_notice_66 : decode cX5_notice 66 = .ok (.getfield 239, 3) := by decide +kernel
theorem dX5_notice_69 : decode cX5_notice 69 = .ok (.iconst 1, 1) := by decide +kernel
theorem dX5_notice_70 : decode cX5_notice 70 = .ok (.iload_n 2, 1) := by decide +kernel
theorem dX5_notice_71 : decode cX5_notice 71 = .ok (.ishl, 1) := by decide +kernel
theorem dX5_notice_72 : decode cX5_notice 72 = .ok (.iconst (-1), 1) := by decide +kernel
theorem dX5_notice_73 : decode cX5_notice 73 = .ok (.ixor, 1) := by decide +kernel
theorem dX5_notice_74 : decode cX5_notice 74 = .ok (.iand, 1) := by decide +kernel
theorem dX5_notice_75 : decode cX5_notice 75 = .ok (.putfield 239, 3) := by decide +kernel
theorem dX5_notice_78 : decode cX5_notice 78 = .ok (.aload_n 0, 1) := by decide +kernel
theorem dX5_notice_79 : decode cX5_notice 79 = .ok (.invokevirtual 115, 3) := by decide +kernel
theorem dX5_notice_82 : decode cX5_notice 82 = .ok (.pop, 1) := by decide +kernel
theorem dX5_notice_83 : decode cX5_notice 83 = .ok (.iload 5, 2) := by decide +kernel
theorem dX5_notice_85 : decode cX5_notice 85 = .ok (.ireturn, 1) := by decide +kernel
theorem dX5_ship_0 : decode cX5_ship 0 = .ok (.aload_n 0, 1) := by decide +kernel
theorem dX5_ship_1 : decode cX5_ship 1 = .ok (.iload_n 1, 1) := by decide +kernel
theorem dX5_ship_2 : decode cX5_ship 2 = .ok (.invokevirtual 234, 3) := by decide +kernel
theorem dX5_ship_5 : decode cX5_ship 5 = .ok (.aload_n 0, 1) := by decide +kernel
theorem dX5_ship_6 : decode cX5_ship 6 = .ok (.getfield 39, 3) := by decide +kernel
theorem dX5_ship_9 : decode cX5_ship 9 = .ok (.iload_n 1, 1) := by decide +kernel
theorem dX5_ship_10 : decode cX5_ship 10 = .ok (.aaload, 1) := by decide +kernel
theorem dX5_ship_11 : decode cX5_ship 11 = .ok (.astore_n 2, 1) := by decide +kernel
theorem dX5_ship_12 : decode cX5_ship 12 = .ok (.aload_n 2, 1) := by decide +kernel
theorem dX5_ship_13 : decode cX5_ship 13 = .ok (.getfield 242, 3) := by decide +kernel
theorem dX5_ship_16 : decode cX5_ship 16 = .ok (.iconst 1, 1) := by decide +kernel
theorem dX5_ship_17 : decode cX5_ship 17 = .ok (.if_icmp .ne 13, 3) := by decide +kernel
theorem dX5_ship_20 : decode cX5_ship 20 = .ok (.new 82, 3) := by decide +kernel
theorem dX5_ship_23 : decode cX5_ship 23 = .ok (.dup, 1) := by decide +kernel
theorem dX5_ship_24 : decode cX5_ship 24 = .ok (.ldc 245, 2) := by decide +kernel
theorem dX5_ship_26 : decode cX5_ship 26 = .ok (.invokespecial 86, 3) := by decide +kernel
theorem dX5_ship_29 : decode cX5_ship 29 = .ok (.athrow, 1) := by decide +kernel
theorem dX5_ship_30 : decode cX5_ship 30 = .ok (.aload_n 2, 1) := by decide +kernel
theorem dX5_ship_31 : decode cX5_ship 31 = .ok (.aload_n 0, 1) := by decide +kernel
theorem dX5_ship_32 : decode cX5_ship 32 = .ok (.getfield 46, 3) := by decide +kernel
theorem dX5_ship_35 : decode cX5_ship 35 = .ok (.invokevirtual 247, 3) := by decide +kernel
theorem dX5_ship_38 : decode cX5_ship 38 = .ok (.ifCond .ne 13, 3) := by decide +kernel
theorem dX5_ship_41 : decode cX5_ship 41 = .ok (.new 82, 3) := by decide +kernel
theorem dX5_ship_44 : decode cX5_ship 44 = .ok (.dup, 1) := by decide +kernel
theorem dX5_ship_45 : decode cX5_ship 45 = .ok (.ldc 251, 2) := by decide +kernel
theorem dX5_ship_47 : decode cX5_ship 47 = .ok (.invokespecial 86, 3) := by decide +kernel
theorem dX5_ship_50 : decode cX5_ship 50 = .ok (.athrow, 1) := by decide +kernel
theorem dX5_ship_51 : decode cX5_ship 51 = .ok (.aload_n 2, 1) := by decide +kernel
theorem dX5_ship_52 : decode cX5_ship 52 = .ok (.iconst 1, 1) := by decide +kernel
theorem dX5_ship_53 : decode cX5_ship 53 = .ok (.putfield 242, 3) := by decide +kernel
theorem dX5_ship_56 : decode cX5_ship 56 = .ok (.aload_n 2, 1) := by decide +kernel
theorem dX5_ship_57 : decode cX5_ship 57 = .ok (.getfield 253, 3) := by decide +kernel
theorem dX5_ship_60 : decode cX5_ship 60 = .ok (.ireturn, 1) := by decide +kernel
theorem dX5_ofProject_0 : decode cX5_ofProject 0 = .ok (.aload_n 0, 1) := by decide +kernel
theorem dX5_ofProject_1 : decode cX5_ofProject 1 = .ok (.iload_n 1, 1) := by decide +kernel
theorem dX5_ofProject_2 : decode cX5_ofProject 2 = .ok (.invokevirtual 234, 3) := by decide +kernel
theorem dX5_ofProject_5 : decode cX5_ofProject 5 = .ok (.aload_n 0, 1) := by decide +kernel
theorem dX5_ofProject_6 : decode cX5_ofProject 6 = .ok (.getfield 39, 3) := by decide +kernel
theorem dX5_ofProject_9 : decode cX5_ofProject 9 = .ok (.iload_n 1, 1) := by decide +kernel
theorem dX5_ofProject_10 : decode cX5_ofProject 10 = .ok (.aaload, 1) := by decide +kernel
theorem dX5_ofProject_11 : decode cX5_ofProject 11 = .ok (.astore_n 3, 1) := by decide +kernel
theorem dX5_ofProject_12 : decode cX5_ofProject 12 = .ok (.iload_n 2, 1) := by decide +kernel
theorem dX5_ofProject_13 : decode cX5_ofProject 13 = .ok (.tableswitch 89 0 6 #[43, 48, 56, 65, 74, 79, 84], 43) := by decide +kernel
theorem dX5_ofProject_56 : decode cX5_ofProject 56 = .ok (.aload_n 3, 1) := by decide +kernel
theorem dX5_ofProject_57 : decode cX5_ofProject 57 = .ok (.getfield 242, 3) := by decide +kernel
theorem dX5_ofProject_60 : decode cX5_ofProject 60 = .ok (.ireturn, 1) := by decide +kernel
theorem dX5_ofProject_61 : decode cX5_ofProject 61 = .ok (.aload_n 3, 1) := by decide +kernel
theorem dX5_ofProject_62 : decode cX5_ofProject 62 = .ok (.getfield 256, 3) := by decide +kernel
theorem dX5_ofProject_65 : decode cX5_ofProject 65 = .ok (.invokestatic 227, 3) := by decide +kernel
theorem dX5_ofProject_68 : decode cX5_ofProject 68 = .ok (.ireturn, 1) := by decide +kernel
theorem dX5_ofProject_69 : decode cX5_ofProject 69 = .ok (.aload_n 3, 1) := by decide +kernel
theorem dX5_ofProject_70 : decode cX5_ofProject 70 = .ok (.aload_n 0, 1) := by decide +kernel
theorem dX5_ofProject_71 : decode cX5_ofProject 71 = .ok (.getfield 46, 3) := by decide +kernel
theorem dX5_ofProject_74 : decode cX5_ofProject 74 = .ok (.invokevirtual 259, 3) := by decide +kernel
theorem dX5_ofProject_77 : decode cX5_ofProject 77 = .ok (.ireturn, 1) := by decide +kernel
theorem dX5_ofProject_78 : decode cX5_ofProject 78 = .ok (.aload_n 3, 1) := by decide +kernel
theorem dX5_ofProject_79 : decode cX5_ofProject 79 = .ok (.aload_n 0, 1) := by decide +kernel
theorem dX5_ofProject_80 : decode cX5_ofProject 80 = .ok (.getfield 46, 3) := by decide +kernel
theorem dX5_ofProject_83 : decode cX5_ofProject 83 = .ok (.invokevirtual 263, 3) := by decide +kernel
theorem dX5_ofProject_86 : decode cX5_ofProject 86 = .ok (.ireturn, 1) := by decide +kernel
theorem dX5_ofProject_87 : decode cX5_ofProject 87 = .ok (.aload_n 3, 1) := by decide +kernel
theorem dX5_ofProject_88 : decode cX5_ofProject 88 = .ok (.getfield 239, 3) := by decide +kernel
theorem dX5_ofProject_91 : decode cX5_ofProject 91 = .ok (.ireturn, 1) := by decide +kernel
theorem dX5_ofProject_92 : decode cX5_ofProject 92 = .ok (.aload_n 3, 1) := by decide +kernel
theorem dX5_ofProject_93 : decode cX5_ofProject 93 = .ok (.getfield 253, 3) := by decide +kernel
theorem dX5_ofProject_96 : decode cX5_ofProject 96 = .ok (.ireturn, 1) := by decide +kernel
theorem dX5_ofProject_97 : decode cX5_ofProject 97 = .ok (.aload_n 3, 1) := by decide +kernel
theorem dX5_ofProject_98 : decode cX5_ofProject 98 = .ok (.getfield 256, 3) := by decide +kernel
theorem dX5_ofProject_101 : decode cX5_ofProject 101 = .ok (.ireturn, 1) := by decide +kernel
theorem dX5_ofProject_102 : decode cX5_ofProject 102 = .ok (.new 72, 3) := by decide +kernel
theorem dX5_ofProject_105 : decode cX5_ofProject 105 = .ok (.dup, 1) := by decide +kernel
theorem dX5_ofProject_106 : decode cX5_ofProject 106 = .ok (.ldc_w 266, 3) := by decide +kernel
theorem dX5_ofProject_109 : decode cX5_ofProject 109 = .ok (.invokespecial 76, 3) := by decide +kernel
theorem dX5_ofProject_112 : decode cX5_ofProject 112 = .ok (.athrow, 1) := by decide +kernel
theorem dX5_many_0 : decode cX5_many 0 = .ok (.iload_n 1, 1) := by decide +kernel
theorem dX5_many_1 : decode cX5_many 1 = .ok (.tableswitch 120 0 10 #[59, 67, 72, 77, 82, 88, 94, 100, 105, 110, 115], 59) := by decide +kernel
theorem dX5_many_60 : decode cX5_many 60 = .ok (.aload_n 0, 1) := by decide +kernel
theorem dX5_many_61 : decode cX5_many 61 = .ok (.getfield 12, 3) := by decide +kernel
theorem dX5_many_64 : decode cX5_many 64 = .ok (.getfield 79, 3) := by decide +kernel
theorem dX5_many_67 : decode cX5_many 67 = .ok (.ireturn, 1) := by decide +kernel
theorem dX5_many_68 : decode cX5_many 68 = .ok (.aload_n 0, 1) := by decide +kernel
theorem dX5_many_69 : decode cX5_many 69 = .ok (.getfield 53, 3) := by decide +kernel
theorem dX5_many_72 : decode cX5_many 72 = .ok (.ireturn, 1) := by decide +kernel
theorem dX5_many_73 : decode cX5_many 73 = .ok (.aload_n 0, 1) := by decide +kernel
theorem dX5_many_74 : decode cX5_many 74 = .ok (.getfield 57, 3) := by decide +kernel
theorem dX5_many_77 : decode cX5_many 77 = .ok (.ireturn, 1) := by decide +kernel
theorem dX5_many_78 : decode cX5_many 78 = .ok (.aload_n 0, 1) := by decide +kernel
theorem dX5_many_79 : decode cX5_many 79 = .ok (.getfield 60, 3) := by decide +kernel
theorem dX5_many_82 : decode cX5_many 82 = .ok (.ireturn, 1) := by decide +kernel
theorem dX5_many_83 : decode cX5_many 83 = .ok (.aload_n 0, 1) := by decide +kernel
theorem dX5_many_84 : decode cX5_many 84 = .ok (.iconst 0, 1) := by decide +kernel
theorem dX5_many_85 : decode cX5_many 85 = .ok (.invokevirtual 268, 3) := by decide +kernel
theorem dX5_many_88 : decode cX5_many 88 = .ok (.ireturn, 1) := by decide +kernel
theorem dX5_many_89 : decode cX5_many 89 = .ok (.aload_n 0, 1) := by decide +kernel
theorem dX5_many_90 : decode cX5_many 90 = .ok (.iconst 1, 1) := by decide +kernel
theorem dX5_many_91 : decode cX5_many 91 = .ok (.invokevirtual 268, 3) := by decide +kernel
theorem dX5_many_94 : decode cX5_many 94 = .ok (.ireturn, 1) := by decide +kernel
theorem dX5_many_95 : decode cX5_many 95 = .ok (.aload_n 0, 1) := by decide +kernel
theorem dX5_many_96 : decode cX5_many 96 = .ok (.iconst 2, 1) := by decide +kernel
theorem dX5_many_97 : decode cX5_many 97 = .ok (.invokevirtual 268, 3) := by decide +kernel
theorem dX5_many_100 : decode cX5_many 100 = .ok (.ireturn, 1) := by decide +kernel
theorem dX5_many_101 : decode cX5_many 101 = .ok (.aload_n 0, 1) := by decide +kernel
theorem dX5_many_102 : decode cX5_many 102 = .ok (.invokevirtual 271, 3) := by decide +kernel
theorem dX5_many_105 : decode cX5_many 105 = .ok (.ireturn, 1) := by decide +kernel
theorem dX5_many_106 : decode cX5_many 106 = .ok (.aload_n 0, 1) := by decide +kernel
theorem dX5_many_107 : decode cX5_many 107 = .ok (.invokevirtual 274, 3) := by decide +kernel
theorem dX5_many_110 : decode cX5_many 110 = .ok (.ireturn, 1) := by decide +kernel
theorem dX5_many_111 : decode cX5_many 111 = .ok (.aload_n 0, 1) := by decide +kernel
theorem dX5_many_112 : decode cX5_many 112 = .ok (.getfield 63, 3) := by decide +kernel
theorem dX5_many_115 : decode cX5_many 115 = .ok (.ireturn, 1) := by decide +kernel
theorem dX5_many_116 : decode cX5_many 116 = .ok (.aload_n 0, 1) := by decide +kernel
theorem dX5_many_117 : decode cX5_many 117 = .ok (.getfield 66, 3) := by decide +kernel
theorem dX5_many_120 : decode cX5_many 120 = .ok (.ireturn, 1) := by decide +kernel
theorem dX5_many_121 : decode cX5_many 121 = .ok (.new 72, 3) := by decide +kernel
theorem dX5_many_124 : decode cX5_many 124 = .ok (.dup, 1) := by decide +kernel
theorem dX5_many_125 : decode cX5_many 125 = .ok (.ldc_w 277, 3) := by decide +kernel
theorem dX5_many_128 : decode cX5_many 128 = .ok (.invokespecial 76, 3) := by decide +kernel
theorem dX5_many_131 : decode cX5_many 131 = .ok (.athrow, 1) := by decide +kernel
theorem dX5_recalledBy_0 : decode cX5_recalledBy 0 = .ok (.aload_n 0, 1) := by decide +kernel
theorem dX5_recalledBy_1 : decode cX5_recalledBy 1 = .ok (.iload_n 1, 1) := by decide +kernel
theorem dX5_recalledBy_2 : decode cX5_recalledBy 2 = .ok (.invokevirtual 96, 3) := by decide +kernel
theorem dX5_recalledBy_5 : decode cX5_recalledBy 5 = .ok (.aload_n 0, 1) := by decide +kernel
theorem dX5_recalledBy_6 : decode cX5_recalledBy 6 = .ok (.iload_n 2, 1) := by decide +kernel
theorem dX5_recalledBy_7 : decode cX5_recalledBy 7 = .ok (.invokevirtual 177, 3) := by decide +kernel
theorem dX5_recalledBy_10 : decode cX5_recalledBy 10 = .ok (.aload_n 0, 1) := by decide +kernel
theorem dX5_recalledBy_11 : decode cX5_recalledBy 11 = .ok (.aload_n 0, 1) := by decide +kernel
theorem dX5_recalledBy_12 : decode cX5_recalledBy 12 = .ok (.getfield 50, 3) := by decide +kernel
theorem dX5_recalledBy_15 : decode cX5_recalledBy 15 = .ok (.aload_n 0, 1) := by decide +kernel
theorem dX5_recalledBy_16 : decode cX5_recalledBy 16 = .ok (.getfield 66, 3) := by decide +kernel
theorem dX5_recalledBy_19 : decode cX5_recalledBy 19 = .ok (.iload_n 1, 1) := by decide +kernel
theorem dX5_recalledBy_20 : decode cX5_recalledBy 20 = .ok (.iload_n 2, 1) := by decide +kernel
theorem dX5_recalledBy_21 : decode cX5_recalledBy 21 = .ok (.invokevirtual 279, 3) := by decide +kernel
theorem dX5_recalledBy_24 : decode cX5_recalledBy 24 = .ok (.iconst 0, 1) := by decide +kernel
theorem dX5_recalledBy_25 : decode cX5_recalledBy 25 = .ok (.istore_n 3, 1) := by decide +kernel
theorem dX5_recalledBy_26 : decode cX5_recalledBy 26 = .ok (.iconst 0, 1) := by decide +kernel
theorem dX5_recalledBy_27 : decode cX5_recalledBy 27 = .ok (.istore 4, 2) := by decide +kernel
theorem dX5_recalledBy_29 : decode cX5_recalledBy 29 = .ok (.iload 4, 2) := by decide +kernel
theorem dX5_recalledBy_31 : decode cX5_recalledBy 31 = .ok (.aload_n 0, 1) := by decide +kernel
theorem dX5_recalledBy_32 : decode cX5_recalledBy 32 = .ok (.getfield 60, 3) := by decide +kernel
theorem dX5_recalledBy_35 : decode cX5_recalledBy 35 = .ok (.if_icmp .ge 33, 3) := by decide +kernel
theorem dX5_recalledBy_38 : decode cX5_recalledBy 38 = .ok (.aload_n 0, 1) := by decide +kernel
theorem dX5_recalledBy_39 : decode cX5_recalledBy 39 = .ok (.getfield 39, 3) := by decide +kernel
theorem dX5_recalledBy_42 : decode cX5_recalledBy 42 = .ok (.iload 4, 2) := by decide +kernel
theorem dX5_recalledBy_44 : decode cX5_recalledBy 44 = .ok (.aaload, 1) := by decide +kernel
theorem dX5_recalledBy_45 : decode cX5_recalledBy 45 = .ok (.aload_n 0, 1) := by decide +kernel
theorem dX5_recalledBy_46 : decode cX5_recalledBy 46 = .ok (.getfield 50, 3) := by decide +kernel
theorem dX5_recalledBy_49 : decode cX5_recalledBy 49 = .ok (.invokevirtual 283, 3) := by decide +kernel
theorem dX5_recalledBy_52 : decode cX5_recalledBy 52 = .ok (.ifCond .eq 10, 3) := by decide +kernel
theorem dX5_recalledBy_55 : decode cX5_recalledBy 55 = .ok (.iload_n 3, 1) := by decide +kernel
theorem dX5_recalledBy_56 : decode cX5_recalledBy 56 = .ok (.iconst 1, 1) := by decide +kernel
theorem dX5_recalledBy_57 : decode cX5_recalledBy 57 = .ok (.iload 4, 2) := by decide +kernel
theorem dX5_recalledBy_59 : decode cX5_recalledBy 59 = .ok (.ishl, 1) := by decide +kernel
theorem dX5_recalledBy_60 : decode cX5_recalledBy 60 = .ok (.ior, 1) := by decide +kernel
theorem dX5_recalledBy_61 : decode cX5_recalledBy 61 = .ok (.istore_n 3, 1) := by decide +kernel
theorem dX5_recalledBy_62 : decode cX5_recalledBy 62 = .ok (.iinc 4 1, 3) := by decide +kernel
theorem dX5_recalledBy_65 : decode cX5_recalledBy 65 = .ok (.goto (-36), 3) := by decide +kernel
theorem dX5_recalledBy_68 : decode cX5_recalledBy 68 = .ok (.iload_n 3, 1) := by decide +kernel
theorem dX5_recalledBy_69 : decode cX5_recalledBy 69 = .ok (.ireturn, 1) := by decide +kernel
theorem dX5_clashesWith_0 : decode cX5_clashesWith 0 = .ok (.aload_n 0, 1) := by decide +kernel
theorem dX5_clashesWith_1 : decode cX5_clashesWith 1 = .ok (.iload_n 1, 1) := by decide +kernel
theorem dX5_clashesWith_2 : decode cX5_clashesWith 2 = .ok (.iload_n 2, 1) := by decide +kernel
theorem dX5_clashesWith_3 : decode cX5_clashesWith 3 = .ok (.invokevirtual 196, 3) := by decide +kernel
theorem dX5_clashesWith_6 : decode cX5_clashesWith 6 = .ok (.aload_n 0, 1) := by decide +kernel
theorem dX5_clashesWith_7 : decode cX5_clashesWith 7 = .ok (.iload_n 3, 1) := by decide +kernel
theorem dX5_clashesWith_8 : decode cX5_clashesWith 8 = .ok (.invokevirtual 96, 3) := by decide +kernel
theorem dX5_clashesWith_11 : decode cX5_clashesWith 11 = .ok (.aload_n 0, 1) := by decide +kernel
theorem dX5_clashesWith_12 : decode cX5_clashesWith 12 = .ok (.getfield 39, 3) := by decide +kernel
theorem dX5_clashesWith_15 : decode cX5_clashesWith 15 = .ok (.iload_n 1, 1) := by decide +kernel
theorem dX5_clashesWith_16 : decode cX5_clashesWith 16 = .ok (.aaload, 1) := by decide +kernel
theorem dX5_clashesWith_17 : decode cX5_clashesWith 17 = .ok (.astore 4, 2) := by decide +kernel
theorem dX5_clashesWith_19 : decode cX5_clashesWith 19 = .ok (.aload 4, 2) := by decide +kernel
theorem dX5_clashesWith_21 : decode cX5_clashesWith 21 = .ok (.iload_n 2, 1) := by decide +kernel
theorem dX5_clashesWith_22 : decode cX5_clashesWith 22 = .ok (.aload 4, 2) := by decide +kernel
theorem dX5_clashesWith_24 : decode cX5_clashesWith 24 = .ok (.getfield 209, 3) := by decide +kernel
theorem dX5_clashesWith_27 : decode cX5_clashesWith 27 = .ok (.iload_n 2, 1) := by decide +kernel
theorem dX5_clashesWith_28 : decode cX5_clashesWith 28 = .ok (.iaload, 1) := by decide +kernel
theorem dX5_clashesWith_29 : decode cX5_clashesWith 29 = .ok (.aload_n 0, 1) := by decide +kernel
theorem dX5_clashesWith_30 : decode cX5_clashesWith 30 = .ok (.getfield 46, 3) := by decide +kernel
theorem dX5_clashesWith_33 : decode cX5_clashesWith 33 = .ok (.invokevirtual 220, 3) := by decide +kernel
theorem dX5_clashesWith_36 : decode cX5_clashesWith 36 = .ok (.istore 5, 2) := by decide +kernel
theorem dX5_clashesWith_38 : decode cX5_clashesWith 38 = .ok (.aload 4, 2) := by decide +kernel
theorem dX5_clashesWith_40 : decode cX5_clashesWith 40 = .ok (.iload_n 2, 1) := by decide +kernel
theorem dX5_clashesWith_41 : decode cX5_clashesWith 41 = .ok (.iload_n 3, 1) := by decide +kernel
theorem dX5_clashesWith_42 : decode cX5_clashesWith 42 = .ok (.aload_n 0, 1) := by decide +kernel
theorem dX5_clashesWith_43 : decode cX5_clashesWith 43 = .ok (.getfield 46, 3) := by decide +kernel
theorem dX5_clashesWith_46 : decode cX5_clashesWith 46 = .ok (.invokevirtual 220, 3) := by decide +kernel
theorem dX5_clashesWith_49 : decode cX5_clashesWith 49 = .ok (.istore 6, 2) := by decide +kernel
theorem dX5_clashesWith_51 : decode cX5_clashesWith 51 = .ok (.aload 4, 2) := by decide +kernel
theorem dX5_clashesWith_53 : decode cX5_clashesWith 53 = .ok (.aload_n 0, 1) := by decide +kernel
theorem dX5_clashesWith_54 : decode cX5_clashesWith 54 = .ok (.getfield 46, 3) := by decide +kernel
theorem dX5_clashesWith_57 : decode cX5_clashesWith 57 = .ok (.invokevirtual 259, 3) := by decide +kernel
theorem dX5_clashesWith_60 : decode cX5_clashesWith 60 = .ok (.iload 5, 2) := by decide +kernel
theorem dX5_clashesWith_62 : decode cX5_clashesWith 62 = .ok (.invokestatic 227, 3) := by decide +kernel
theorem dX5_clashesWith_65 : decode cX5_clashesWith 65 = .ok (.isub, 1) := by decide +kernel
theorem dX5_clashesWith_66 : decode cX5_clashesWith 66 = .ok (.iload 6, 2) := by decide +kernel
theorem dX5_clashesWith_68 : decode cX5_clashesWith 68 = .ok (.invokestatic 227, 3) := by decide +kernel
theorem dX5_clashesWith_71 : decode cX5_clashesWith 71 = .ok (.iadd, 1) := by decide +kernel
theorem dX5_clashesWith_72 : decode cX5_clashesWith 72 = .ok (.ireturn, 1) := by decide +kernel
theorem dX5_remedy_0 : decode cX5_remedy 0 = .ok (.aload_n 0, 1) := by decide +kernel
theorem dX5_remedy_1 : decode cX5_remedy 1 = .ok (.iload_n 1, 1) := by decide +kernel
theorem dX5_remedy_2 : decode cX5_remedy 2 = .ok (.invokevirtual 234, 3) := by decide +kernel
theorem dX5_remedy_5 : decode cX5_remedy 5 = .ok (.aload_n 0, 1) := by decide +kernel
theorem dX5_remedy_6 : decode cX5_remedy 6 = .ok (.getfield 39, 3) := by decide +kernel
theorem dX5_remedy_9 : decode cX5_remedy 9 = .ok (.iload_n 1, 1) := by decide +kernel
theorem dX5_remedy_10 : decode cX5_remedy 10 = .ok (.aaload, 1) := by decide +kernel
theorem dX5_remedy_11 : decode cX5_remedy 11 = .ok (.aload_n 0, 1) := by decide +kernel
theorem dX5_remedy_12 : decode cX5_remedy 12 = .ok (.getfield 46, 3) := by decide +kernel
theorem dX5_remedy_15 : decode cX5_remedy 15 = .ok (.invokevirtual 286, 3) := by decide +kernel
theorem dX5_remedy_18 : decode cX5_remedy 18 = .ok (.ireturn, 1) := by decide +kernel
theorem dX5_substitute_0 : decode cX5_substitute 0 = .ok (.aload_n 0, 1) := by decide +kernel
theorem dX5_substitute_1 : decode cX5_substitute 1 = .ok (.iload_n 1, 1) := by decide +kernel
theorem dX5_substitute_2 : decode cX5_substitute 2 = .ok (.iload_n 2, 1) := by decide +kernel
theorem dX5_substitute_3 : decode cX5_substitute 3 = .ok (.invokevirtual 196, 3) := by decide +kernel
theorem dX5_substitute_6 : decode cX5_substitute 6 = .ok (.aload_n 0, 1) := by decide +kernel
theorem dX5_substitute_7 : decode cX5_substitute 7 = .ok (.getfield 39, 3) := by decide +kernel
theorem dX5_substitute_10 : decode cX5_substitute 10 = .ok (.iload_n 1, 1) := by decide +kernel
theorem dX5_substitute_11 : decode cX5_substitute 11 = .ok (.aaload, 1) := by decide +kernel
theorem dX5_substitute_12 : decode cX5_substitute 12 = .ok (.astore_n 3, 1) := by decide +kernel
theorem dX5_substitute_13 : decode cX5_substitute 13 = .ok (.aload_n 3, 1) := by decide +kernel
theorem dX5_substitute_14 : decode cX5_substitute 14 = .ok (.getfield 209, 3) := by decide +kernel
theorem dX5_substitute_17 : decode cX5_substitute 17 = .ok (.iload_n 2, 1) := by decide +kernel
theorem dX5_substitute_18 : decode cX5_substitute 18 = .ok (.iaload, 1) := by decide +kernel
theorem dX5_substitute_19 : decode cX5_substitute 19 = .ok (.istore 4, 2) := by decide +kernel
theorem dX5_substitute_21 : decode cX5_substitute 21 = .ok (.iload 4, 2) := by decide +kernel
theorem dX5_substitute_23 : decode cX5_substitute 23 = .ok (.iconst (-1), 1) := by decide +kernel
theorem dX5_substitute_24 : decode cX5_substitute 24 = .ok (.if_icmp .ne 5, 3) := by decide +kernel
theorem dX5_substitute_27 : decode cX5_substitute 27 = .ok (.iconst (-1), 1) := by decide +kernel
theorem dX5_substitute_28 : decode cX5_substitute 28 = .ok (.ireturn, 1) := by decide +kernel
theorem dX5_substitute_29 : decode cX5_substitute 29 = .ok (.iconst (-1), 1) := by decide +kernel
theorem dX5_substitute_30 : decode cX5_substitute 30 = .ok (.istore 5, 2) := by decide +kernel
theorem dX5_substitute_32 : decode cX5_substitute 32 = .ok (.iconst (-1), 1) := by decide +kernel
theorem dX5_substitute_33 : decode cX5_substitute 33 = .ok (.istore 6, 2) := by decide +kernel
theorem dX5_substitute_35 : decode cX5_substitute 35 = .ok (.iconst 0, 1) := by decide +kernel
theorem dX5_substitute_36 : decode cX5_substitute 36 = .ok (.istore 7, 2) := by decide +kernel
theorem dX5_substitute_38 : decode cX5_substitute 38 = .ok (.iload 7, 2) := by decide +kernel
theorem dX5_substitute_40 : decode cX5_substitute 40 = .ok (.aload_n 0, 1) := by decide +kernel
theorem dX5_substitute_41 : decode cX5_substitute 41 = .ok (.getfield 53, 3) := by decide +kernel
theorem dX5_substitute_44 : decode cX5_substitute 44 = .ok (.if_icmp .ge 57, 3) := by decide +kernel
theorem dX5_substitute_47 : decode cX5_substitute 47 = .ok (.aload_n 0, 1) := by decide +kernel
theorem dX5_substitute_48 : decode cX5_substitute 48 = .ok (.getfield 24, 3) := by decide +kernel
theorem dX5_substitute_51 : decode cX5_substitute 51 = .ok (.iload 4, 2) := by decide +kernel
theorem dX5_substitute_53 : decode cX5_substitute 53 = .ok (.aaload, 1) := by decide +kernel
theorem dX5_substitute_54 : decode cX5_substitute 54 = .ok (.iload 7, 2) := by decide +kernel
theorem dX5_substitute_56 : decode cX5_substitute 56 = .ok (.iaload, 1) := by decide +kernel
theorem dX5_substitute_57 : decode cX5_substitute 57 = .ok (.istore 8, 2) := by decide +kernel
theorem dX5_substitute_59 : decode cX5_substitute 59 = .ok (.iload 7, 2) := by decide +kernel
theorem dX5_substitute_61 : decode cX5_substitute 61 = .ok (.iload 4, 2) := by decide +kernel
theorem dX5_substitute_63 : decode cX5_substitute 63 = .ok (.if_icmp .eq 32, 3) := by decide +kernel
theorem dX5_substitute_66 : decode cX5_substitute 66 = .ok (.iload 8, 2) := by decide +kernel
theorem dX5_substitute_68 : decode cX5_substitute 68 = .ok (.iload 6, 2) := by decide +kernel
theorem dX5_substitute_70 : decode cX5_substitute 70 = .ok (.if_icmp .le 25, 3) := by decide +kernel
theorem dX5_substitute_73 : decode cX5_substitute 73 = .ok (.aload_n 3, 1) := by decide +kernel
theorem dX5_substitute_74 : decode cX5_substitute 74 = .ok (.iload_n 2, 1) := by decide +kernel
theorem dX5_substitute_75 : decode cX5_substitute 75 = .ok (.iload 7, 2) := by decide +kernel
theorem dX5_substitute_77 : decode cX5_substitute 77 = .ok (.aload_n 0, 1) := by decide +kernel
theorem dX5_substitute_78 : decode cX5_substitute 78 = .ok (.getfield 46, 3) := by decide +kernel
theorem dX5_substitute_81 : decode cX5_substitute 81 = .ok (.invokevirtual 220, 3) := by decide +kernel
theorem dX5_substitute_84 : decode cX5_substitute 84 = .ok (.ifCond .ne 11, 3) := by decide +kernel
theorem dX5_substitute_87 : decode cX5_substitute 87 = .ok (.iload 7, 2) := by decide +kernel
theorem dX5_substitute_89 : decode cX5_substitute 89 = .ok (.istore 5, 2) := by decide +kernel
theorem dX5_substitute_91 : decode cX5_substitute 91 = .ok (.iload 8, 2) := by decide +kernel
theorem dX5_substitute_93 : decode cX5_substitute 93 = .ok (.istore 6, 2) := by decide +kernel
theorem dX5_substitute_95 : decode cX5_substitute 95 = .ok (.iinc 7 1, 3) := by decide +kernel
theorem dX5_substitute_98 : decode cX5_substitute 98 = .ok (.goto (-60), 3) := by decide +kernel
theorem dX5_substitute_101 : decode cX5_substitute 101 = .ok (.iload 5, 2) := by decide +kernel
theorem dX5_substitute_103 : decode cX5_substitute 103 = .ok (.ireturn, 1) := by decide +kernel
theorem dX5_boundWith_0 : decode cX5_boundWith 0 = .ok (.iload_n 1, 1) := by decide +kernel
theorem dX5_boundWith_1 : decode cX5_boundWith 1 = .ok (.invokestatic 152, 3) := by decide +kernel
theorem dX5_boundWith_4 : decode cX5_boundWith 4 = .ok (.aload_n 0, 1) := by decide +kernel
theorem dX5_boundWith_5 : decode cX5_boundWith 5 = .ok (.aload_n 0, 1) := by decide +kernel
theorem dX5_boundWith_6 : decode cX5_boundWith 6 = .ok (.getfield 50, 3) := by decide +kernel
theorem dX5_boundWith_9 : decode cX5_boundWith 9 = .ok (.iload_n 1, 1) := by decide +kernel
theorem dX5_boundWith_10 : decode cX5_boundWith 10 = .ok (.iconst (-1), 1) := by decide +kernel
theorem dX5_boundWith_11 : decode cX5_boundWith 11 = .ok (.iconst (-1), 1) := by decide +kernel
theorem dX5_boundWith_12 : decode cX5_boundWith 12 = .ok (.invokevirtual 279, 3) := by decide +kernel
theorem dX5_boundWith_15 : decode cX5_boundWith 15 = .ok (.iconst 0, 1) := by decide +kernel
theorem dX5_boundWith_16 : decode cX5_boundWith 16 = .ok (.istore_n 2, 1) := by decide +kernel
theorem dX5_boundWith_17 : decode cX5_boundWith 17 = .ok (.iconst 0, 1) := by decide +kernel
theorem dX5_boundWith_18 : decode cX5_boundWith 18 = .ok (.istore_n 3, 1) := by decide +kernel
theorem dX5_boundWith_19 : decode cX5_boundWith 19 = .ok (.iload_n 3, 1) := by decide +kernel
theorem dX5_boundWith_20 : decode cX5_boundWith 20 = .ok (.aload_n 0, 1) := by decide +kernel
theorem dX5_boundWith_21 : decode cX5_boundWith 21 = .ok (.getfield 53, 3) := by decide +kernel
theorem dX5_boundWith_24 : decode cX5_boundWith 24 = .ok (.if_icmp .ge 31, 3) := by decide +kernel
theorem dX5_boundWith_27 : decode cX5_boundWith 27 = .ok (.aload_n 0, 1) := by decide +kernel
theorem dX5_boundWith_28 : decode cX5_boundWith 28 = .ok (.getfield 50, 3) := by decide +kernel
theorem dX5_boundWith_31 : decode cX5_boundWith 31 = .ok (.iload_n 3, 1) := by decide +kernel
theorem dX5_boundWith_32 : decode cX5_boundWith 32 = .ok (.invokevirtual 137, 3) := by decide +kernel
theorem dX5_boundWith_35 : decode cX5_boundWith 35 = .ok (.aload_n 0, 1) := by decide +kernel
theorem dX5_boundWith_36 : decode cX5_boundWith 36 = .ok (.getfield 46, 3) := by decide +kernel
theorem dX5_boundWith_39 : decode cX5_boundWith 39 = .ok (.iload_n 3, 1) := by decide +kernel
theorem dX5_boundWith_40 : decode cX5_boundWith 40 = .ok (.invokevirtual 137, 3) := by decide +kernel
theorem dX5_boundWith_43 : decode cX5_boundWith 43 = .ok (.if_icmp .eq 6, 3) := by decide +kernel
theorem dX5_boundWith_46 : decode cX5_boundWith 46 = .ok (.iinc 2 1, 3) := by decide +kernel
theorem dX5_boundWith_49 : decode cX5_boundWith 49 = .ok (.iinc 3 1, 3) := by decide +kernel
theorem dX5_boundWith_52 : decode cX5_boundWith 52 = .ok (.goto (-33), 3) := by decide +kernel
theorem dX5_boundWith_55 : decode cX5_boundWith 55 = .ok (.iload_n 2, 1) := by decide +kernel
theorem dX5_boundWith_56 : decode cX5_boundWith 56 = .ok (.ireturn, 1) := by decide +kernel
theorem dX5_digest_0 : decode cX5_digest 0 = .ok (.ldc2_w 289, 3) := by decide +kernel
theorem dX5_digest_3 : decode cX5_digest 3 = .ok (.lstore_n 1, 1) := by decide +kernel
theorem dX5_digest_4 : decode cX5_digest 4 = .ok (.iconst 0, 1) := by decide +kernel
theorem dX5_digest_5 : decode cX5_digest 5 = .ok (.istore_n 3, 1) := by decide +kernel
theorem dX5_digest_6 : decode cX5_digest 6 = .ok (.iload_n 3, 1) := by decide +kernel
theorem dX5_digest_7 : decode cX5_digest 7 = .ok (.bipush 11, 2) := by decide +kernel
theorem dX5_digest_9 : decode cX5_digest 9 = .ok (.if_icmp .ge 19, 3) := by decide +kernel
theorem dX5_digest_12 : decode cX5_digest 12 = .ok (.lload_n 1, 1) := by decide +kernel
theorem dX5_digest_13 : decode cX5_digest 13 = .ok (.aload_n 0, 1) := by decide +kernel
theorem dX5_digest_14 : decode cX5_digest 14 = .ok (.iload_n 3, 1) := by decide +kernel
theorem dX5_digest_15 : decode cX5_digest 15 = .ok (.invokevirtual 291, 3) := by decide +kernel
theorem dX5_digest_18 : decode cX5_digest 18 = .ok (.invokestatic 294, 3) := by decide +kernel
theorem dX5_digest_21 : decode cX5_digest 21 = .ok (.lstore_n 1, 1) := by decide +kernel
theorem dX5_digest_22 : decode cX5_digest 22 = .ok (.iinc 3 1, 3) := by decide +kernel
theorem dX5_digest_25 : decode cX5_digest 25 = .ok (.goto (-19), 3) := by decide +kernel
theorem dX5_digest_28 : decode cX5_digest 28 = .ok (.iconst 0, 1) := by decide +kernel
theorem dX5_digest_29 : decode cX5_digest 29 = .ok (.istore_n 3, 1) := by decide +kernel
theorem dX5_digest_30 : decode cX5_digest 30 = .ok (.iload_n 3, 1) := by decide +kernel
theorem dX5_digest_31 : decode cX5_digest 31 = .ok (.aload_n 0, 1) := by decide +kernel
theorem dX5_digest_32 : decode cX5_digest 32 = .ok (.getfield 53, 3) := by decide +kernel
theorem dX5_digest_35 : decode cX5_digest 35 = .ok (.if_icmp .ge 16, 3) := by decide +kernel
theorem dX5_digest_38 : decode cX5_digest 38 = .ok (.aload_n 0, 1) := by decide +kernel
theorem dX5_digest_39 : decode cX5_digest 39 = .ok (.lload_n 1, 1) := by decide +kernel
theorem dX5_digest_40 : decode cX5_digest 40 = .ok (.iload_n 3, 1) := by decide +kernel
theorem dX5_digest_41 : decode cX5_digest 41 = .ok (.invokevirtual 298, 3) := by decide +kernel
theorem dX5_digest_44 : decode cX5_digest 44 = .ok (.lstore_n 1, 1) := by decide +kernel
theorem dX5_digest_45 : decode cX5_digest 45 = .ok (.iinc 3 1, 3) := by decide +kernel
theorem dX5_digest_48 : decode cX5_digest 48 = .ok (.goto (-18), 3) := by decide +kernel
theorem dX5_digest_51 : decode cX5_digest 51 = .ok (.iconst 0, 1) := by decide +kernel
theorem dX5_digest_52 : decode cX5_digest 52 = .ok (.istore_n 3, 1) := by decide +kernel
theorem dX5_digest_53 : decode cX5_digest 53 = .ok (.iload_n 3, 1) := by decide +kernel
theorem dX5_digest_54 : decode cX5_digest 54 = .ok (.aload_n 0, 1) := by decide +kernel
theorem dX5_digest_55 : decode cX5_digest 55 = .ok (.getfield 57, 3) := by decide +kernel
theorem dX5_digest_58 : decode cX5_digest 58 = .ok (.if_icmp .ge 16, 3) := by decide +kernel
theorem dX5_digest_61 : decode cX5_digest 61 = .ok (.aload_n 0, 1) := by decide +kernel
theorem dX5_digest_62 : decode cX5_digest 62 = .ok (.lload_n 1, 1) := by decide +kernel
theorem dX5_digest_63 : decode cX5_digest 63 = .ok (.iload_n 3, 1) := by decide +kernel
theorem dX5_digest_64 : decode cX5_digest 64 = .ok (.invokevirtual 301, 3) := by decide +kernel
theorem dX5_digest_67 : decode cX5_digest 67 = .ok (.lstore_n 1, 1) := by decide +kernel
theorem dX5_digest_68 : decode cX5_digest 68 = .ok (.iinc 3 1, 3) := by decide +kernel
theorem dX5_digest_71 : decode cX5_digest 71 = .ok (.goto (-18), 3) := by decide +kernel
theorem dX5_digest_74 : decode cX5_digest 74 = .ok (.iconst 0, 1) := by decide +kernel
theorem dX5_digest_75 : decode cX5_digest 75 = .ok (.istore_n 3, 1) := by decide +kernel
theorem dX5_digest_76 : decode cX5_digest 76 = .ok (.iload_n 3, 1) := by decide +kernel
theorem dX5_digest_77 : decode cX5_digest 77 = .ok (.aload_n 0, 1) := by decide +kernel
theorem dX5_digest_78 : decode cX5_digest 78 = .ok (.getfield 60, 3) := by decide +kernel
theorem dX5_digest_81 : decode cX5_digest 81 = .ok (.if_icmp .ge 16, 3) := by decide +kernel
theorem dX5_digest_84 : decode cX5_digest 84 = .ok (.aload_n 0, 1) := by decide +kernel
theorem dX5_digest_85 : decode cX5_digest 85 = .ok (.lload_n 1, 1) := by decide +kernel
theorem dX5_digest_86 : decode cX5_digest 86 = .ok (.iload_n 3, 1) := by decide +kernel
theorem dX5_digest_87 : decode cX5_digest 87 = .ok (.invokevirtual 304, 3) := by decide +kernel
theorem dX5_digest_90 : decode cX5_digest 90 = .ok (.lstore_n 1, 1) := by decide +kernel
theorem dX5_digest_91 : decode cX5_digest 91 = .ok (.iinc 3 1, 3) := by decide +kernel
theorem dX5_digest_94 : decode cX5_digest 94 = .ok (.goto (-18), 3) := by decide +kernel
theorem dX5_digest_97 : decode cX5_digest 97 = .ok (.lload_n 1, 1) := by decide +kernel
theorem dX5_digest_98 : decode cX5_digest 98 = .ok (.aload_n 0, 1) := by decide +kernel
theorem dX5_digest_99 : decode cX5_digest 99 = .ok (.bipush 30, 2) := by decide +kernel
theorem dX5_digest_101 : decode cX5_digest 101 = .ok (.invokevirtual 307, 3) := by decide +kernel
theorem dX5_digest_104 : decode cX5_digest 104 = .ok (.invokestatic 294, 3) := by decide +kernel
theorem dX5_digest_107 : decode cX5_digest 107 = .ok (.lstore_n 1, 1) := by decide +kernel
theorem dX5_digest_108 : decode cX5_digest 108 = .ok (.lload_n 1, 1) := by decide +kernel
theorem dX5_digest_109 : decode cX5_digest 109 = .ok (.aload_n 0, 1) := by decide +kernel
theorem dX5_digest_110 : decode cX5_digest 110 = .ok (.bipush 90, 2) := by decide +kernel
theorem dX5_digest_112 : decode cX5_digest 112 = .ok (.invokevirtual 307, 3) := by decide +kernel
theorem dX5_digest_115 : decode cX5_digest 115 = .ok (.invokestatic 294, 3) := by decide +kernel
theorem dX5_digest_118 : decode cX5_digest 118 = .ok (.lreturn, 1) := by decide +kernel
theorem dX5_fold_0 : decode cX5_fold 0 = .ok (.lload_n 0, 1) := by decide +kernel
theorem dX5_fold_1 : decode cX5_fold 1 = .ok (.ldc2_w 310, 3) := by decide +kernel
theorem dX5_fold_4 : decode cX5_fold 4 = .ok (.lmul, 1) := by decide +kernel
theorem dX5_fold_5 : decode cX5_fold 5 = .ok (.iload_n 2, 1) := by decide +kernel
theorem dX5_fold_6 : decode cX5_fold 6 = .ok (.i2l, 1) := by decide +kernel
theorem dX5_fold_7 : decode cX5_fold 7 = .ok (.ladd, 1) := by decide +kernel
theorem dX5_fold_8 : decode cX5_fold 8 = .ok (.lreturn, 1) := by decide +kernel
theorem dX5_foldPiece_0 : decode cX5_foldPiece 0 = .ok (.lload_n 1, 1) := by decide +kernel
theorem dX5_foldPiece_1 : decode cX5_foldPiece 1 = .ok (.lstore 4, 2) := by decide +kernel
theorem dX5_foldPiece_3 : decode cX5_foldPiece 3 = .ok (.iconst 0, 1) := by decide +kernel
theorem dX5_foldPiece_4 : decode cX5_foldPiece 4 = .ok (.istore 6, 2) := by decide +kernel
theorem dX5_foldPiece_6 : decode cX5_foldPiece 6 = .ok (.iload 6, 2) := by decide +kernel
theorem dX5_foldPiece_8 : decode cX5_foldPiece 8 = .ok (.bipush 8, 2) := by decide +kernel
theorem dX5_foldPiece_10 : decode cX5_foldPiece 10 = .ok (.if_icmp .ge 23, 3) := by decide +kernel
theorem dX5_foldPiece_13 : decode cX5_foldPiece 13 = .ok (.lload 4, 2) := by decide +kernel
theorem dX5_foldPiece_15 : decode cX5_foldPiece 15 = .ok (.aload_n 0, 1) := by decide +kernel
theorem dX5_foldPiece_16 : decode cX5_foldPiece 16 = .ok (.iload_n 3, 1) := by decide +kernel
theorem dX5_foldPiece_17 : decode cX5_foldPiece 17 = .ok (.iload 6, 2) := by decide +kernel
theorem dX5_foldPiece_19 : decode cX5_foldPiece 19 = .ok (.invokevirtual 312, 3) := by decide +kernel
theorem dX5_foldPiece_22 : decode cX5_foldPiece 22 = .ok (.invokestatic 294, 3) := by decide +kernel
theorem dX5_foldPiece_25 : decode cX5_foldPiece 25 = .ok (.lstore 4, 2) := by decide +kernel
theorem dX5_foldPiece_27 : decode cX5_foldPiece 27 = .ok (.iinc 6 1, 3) := by decide +kernel
theorem dX5_foldPiece_30 : decode cX5_foldPiece 30 = .ok (.goto (-24), 3) := by decide +kernel
theorem dX5_foldPiece_33 : decode cX5_foldPiece 33 = .ok (.lload 4, 2) := by decide +kernel
theorem dX5_foldPiece_35 : decode cX5_foldPiece 35 = .ok (.aload_n 0, 1) := by decide +kernel
theorem dX5_foldPiece_36 : decode cX5_foldPiece 36 = .ok (.iload_n 3, 1) := by decide +kernel
theorem dX5_foldPiece_37 : decode cX5_foldPiece 37 = .ok (.invokevirtual 316, 3) := by decide +kernel
theorem dX5_foldPiece_40 : decode cX5_foldPiece 40 = .ok (.invokestatic 294, 3) := by decide +kernel
theorem dX5_foldPiece_43 : decode cX5_foldPiece 43 = .ok (.lstore 4, 2) := by decide +kernel
theorem dX5_foldPiece_45 : decode cX5_foldPiece 45 = .ok (.iload_n 3, 1) := by decide +kernel
theorem dX5_foldPiece_46 : decode cX5_foldPiece 46 = .ok (.iconst 1, 1) := by decide +kernel
theorem dX5_foldPiece_47 : decode cX5_foldPiece 47 = .ok (.iadd, 1) := by decide +kernel
theorem dX5_foldPiece_48 : decode cX5_foldPiece 48 = .ok (.aload_n 0, 1) := by decide +kernel
theorem dX5_foldPiece_49 : decode cX5_foldPiece 49 = .ok (.getfield 53, 3) := by decide +kernel
theorem dX5_foldPiece_52 : decode cX5_foldPiece 52 = .ok (.if_icmp .ge 18, 3) := by decide +kernel
theorem dX5_foldPiece_55 : decode cX5_foldPiece 55 = .ok (.lload 4, 2) := by decide +kernel
theorem dX5_foldPiece_57 : decode cX5_foldPiece 57 = .ok (.aload_n 0, 1) := by decide +kernel
theorem dX5_foldPiece_58 : decode cX5_foldPiece 58 = .ok (.iload_n 3, 1) := by decide +kernel
theorem dX5_foldPiece_59 : decode cX5_foldPiece 59 = .ok (.iload_n 3, 1) := by decide +kernel
theorem dX5_foldPiece_60 : decode cX5_foldPiece 60 = .ok (.iconst 1, 1) := by decide +kernel
theorem dX5_foldPiece_61 : decode cX5_foldPiece 61 = .ok (.iadd, 1) := by decide +kernel
theorem dX5_foldPiece_62 : decode cX5_foldPiece 62 = .ok (.invokevirtual 319, 3) := by decide +kernel
theorem dX5_foldPiece_65 : decode cX5_foldPiece 65 = .ok (.invokestatic 294, 3) := by decide +kernel
theorem dX5_foldPiece_68 : decode cX5_foldPiece 68 = .ok (.lstore 4, 2) := by decide +kernel
theorem dX5_foldPiece_70 : decode cX5_foldPiece 70 = .ok (.lload 4, 2) := by decide +kernel
theorem dX5_foldPiece_72 : decode cX5_foldPiece 72 = .ok (.lreturn, 1) := by decide +kernel
theorem dX5_foldLicence_0 : decode cX5_foldLicence 0 = .ok (.lload_n 1, 1) := by decide +kernel
theorem dX5_foldLicence_1 : decode cX5_foldLicence 1 = .ok (.lstore 4, 2) := by decide +kernel
theorem dX5_foldLicence_3 : decode cX5_foldLicence 3 = .ok (.iconst 0, 1) := by decide +kernel
theorem dX5_foldLicence_4 : decode cX5_foldLicence 4 = .ok (.istore 6, 2) := by decide +kernel
theorem dX5_foldLicence_6 : decode cX5_foldLicence 6 = .ok (.iload 6, 2) := by decide +kernel
theorem dX5_foldLicence_8 : decode cX5_foldLicence 8 = .ok (.bipush 6, 2) := by decide +kernel
theorem dX5_foldLicence_10 : decode cX5_foldLicence 10 = .ok (.if_icmp .ge 23, 3) := by decide +kernel
theorem dX5_foldLicence_13 : decode cX5_foldLicence 13 = .ok (.lload 4, 2) := by decide +kernel
theorem dX5_foldLicence_15 : decode cX5_foldLicence 15 = .ok (.aload_n 0, 1) := by decide +kernel
theorem dX5_foldLicence_16 : decode cX5_foldLicence 16 = .ok (.iload_n 3, 1) := by decide +kernel
theorem dX5_foldLicence_17 : decode cX5_foldLicence 17 = .ok (.iload 6, 2) := by decide +kernel
theorem dX5_foldLicence_19 : decode cX5_foldLicence 19 = .ok (.invokevirtual 322, 3) := by decide +kernel
theorem dX5_foldLicence_22 : decode cX5_foldLicence 22 = .ok (.invokestatic 294, 3) := by decide +kernel
theorem dX5_foldLicence_25 : decode cX5_foldLicence 25 = .ok (.lstore 4, 2) := by decide +kernel
theorem dX5_foldLicence_27 : decode cX5_foldLicence 27 = .ok (.iinc 6 1, 3) := by decide +kernel
theorem dX5_foldLicence_30 : decode cX5_foldLicence 30 = .ok (.goto (-24), 3) := by decide +kernel
theorem dX5_foldLicence_33 : decode cX5_foldLicence 33 = .ok (.lload 4, 2) := by decide +kernel
theorem dX5_foldLicence_35 : decode cX5_foldLicence 35 = .ok (.lreturn, 1) := by decide +kernel
theorem dX5_foldProject_0 : decode cX5_foldProject 0 = .ok (.lload_n 1, 1) := by decide +kernel
theorem dX5_foldProject_1 : decode cX5_foldProject 1 = .ok (.lstore 4, 2) := by decide +kernel
theorem dX5_foldProject_3 : decode cX5_foldProject 3 = .ok (.iconst 0, 1) := by decide +kernel
theorem dX5_foldProject_4 : decode cX5_foldProject 4 = .ok (.istore 6, 2) := by decide +kernel
theorem dX5_foldProject_6 : decode cX5_foldProject 6 = .ok (.iload 6, 2) := by decide +kernel
theorem dX5_foldProject_8 : decode cX5_foldProject 8 = .ok (.bipush 7, 2) := by decide +kernel
theorem dX5_foldProject_10 : decode cX5_foldProject 10 = .ok (.if_icmp .ge 23, 3) := by decide +kernel
theorem dX5_foldProject_13 : decode cX5_foldProject 13 = .ok (.lload 4, 2) := by decide +kernel
theorem dX5_foldProject_15 : decode cX5_foldProject 15 = .ok (.aload_n 0, 1) := by decide +kernel
theorem dX5_foldProject_16 : decode cX5_foldProject 16 = .ok (.iload_n 3, 1) := by decide +kernel
theorem dX5_foldProject_17 : decode cX5_foldProject 17 = .ok (.iload 6, 2) := by decide +kernel
theorem dX5_foldProject_19 : decode cX5_foldProject 19 = .ok (.invokevirtual 325, 3) := by decide +kernel
theorem dX5_foldProject_22 : decode cX5_foldProject 22 = .ok (.invokestatic 294, 3) := by decide +kernel
theorem dX5_foldProject_25 : decode cX5_foldProject 25 = .ok (.lstore 4, 2) := by decide +kernel
theorem dX5_foldProject_27 : decode cX5_foldProject 27 = .ok (.iinc 6 1, 3) := by decide +kernel
theorem dX5_foldProject_30 : decode cX5_foldProject 30 = .ok (.goto (-24), 3) := by decide +kernel
theorem dX5_foldProject_33 : decode cX5_foldProject 33 = .ok (.lload 4, 2) := by decide +kernel
theorem dX5_foldProject_35 : decode cX5_foldProject 35 = .ok (.aload_n 0, 1) := by decide +kernel
theorem dX5_foldProject_36 : decode cX5_foldProject 36 = .ok (.iload_n 3, 1) := by decide +kernel
theorem dX5_foldProject_37 : decode cX5_foldProject 37 = .ok (.invokevirtual 328, 3) := by decide +kernel
theorem dX5_foldProject_40 : decode cX5_foldProject 40 = .ok (.invokestatic 294, 3) := by decide +kernel
theorem dX5_foldProject_43 : decode cX5_foldProject 43 = .ok (.lstore 4, 2) := by decide +kernel
theorem dX5_foldProject_45 : decode cX5_foldProject 45 = .ok (.iconst 0, 1) := by decide +kernel
theorem dX5_foldProject_46 : decode cX5_foldProject 46 = .ok (.istore 6, 2) := by decide +kernel
theorem dX5_foldProject_48 : decode cX5_foldProject 48 = .ok (.iload 6, 2) := by decide +kernel
theorem dX5_foldProject_50 : decode cX5_foldProject 50 = .ok (.bipush 10, 2) := by decide +kernel
theorem dX5_foldProject_52 : decode cX5_foldProject 52 = .ok (.if_icmp .ge 34, 3) := by decide +kernel
theorem dX5_foldProject_55 : decode cX5_foldProject 55 = .ok (.aload_n 0, 1) := by decide +kernel
theorem dX5_foldProject_56 : decode cX5_foldProject 56 = .ok (.getfield 39, 3) := by decide +kernel
theorem dX5_foldProject_59 : decode cX5_foldProject 59 = .ok (.iload_n 3, 1) := by decide +kernel
theorem dX5_foldProject_60 : decode cX5_foldProject 60 = .ok (.aaload, 1) := by decide +kernel
theorem dX5_foldProject_61 : decode cX5_foldProject 61 = .ok (.iload 6, 2) := by decide +kernel
theorem dX5_foldProject_63 : decode cX5_foldProject 63 = .ok (.invokevirtual 331, 3) := by decide +kernel
theorem dX5_foldProject_66 : decode cX5_foldProject 66 = .ok (.ifCond .eq 14, 3) := by decide +kernel
theorem dX5_foldProject_69 : decode cX5_foldProject 69 = .ok (.aload_n 0, 1) := by decide +kernel
theorem dX5_foldProject_70 : decode cX5_foldProject 70 = .ok (.lload 4, 2) := by decide +kernel
theorem dX5_foldProject_72 : decode cX5_foldProject 72 = .ok (.iload_n 3, 1) := by decide +kernel
theorem dX5_foldProject_73 : decode cX5_foldProject 73 = .ok (.iload 6, 2) := by decide +kernel
theorem dX5_foldProject_75 : decode cX5_foldProject 75 = .ok (.invokevirtual 335, 3) := by decide +kernel
theorem dX5_foldProject_78 : decode cX5_foldProject 78 = .ok (.lstore 4, 2) := by decide +kernel
theorem dX5_foldProject_80 : decode cX5_foldProject 80 = .ok (.iinc 6 1, 3) := by decide +kernel
theorem dX5_foldProject_83 : decode cX5_foldProject 83 = .ok (.goto (-35), 3) := by decide +kernel
theorem dX5_foldProject_86 : decode cX5_foldProject 86 = .ok (.lload 4, 2) := by decide +kernel
theorem dX5_foldProject_88 : decode cX5_foldProject 88 = .ok (.lreturn, 1) := by decide +kernel
theorem dX5_foldNode_0 : decode cX5_foldNode 0 = .ok (.lload_n 1, 1) := by decide +kernel
theorem dX5_foldNode_1 : decode cX5_foldNode 1 = .ok (.lstore 5, 2) := by decide +kernel
theorem dX5_foldNode_3 : decode cX5_foldNode 3 = .ok (.iconst 0, 1) := by decide +kernel
theorem dX5_foldNode_4 : decode cX5_foldNode 4 = .ok (.istore 7, 2) := by decide +kernel
theorem dX5_foldNode_6 : decode cX5_foldNode 6 = .ok (.iload 7, 2) := by decide +kernel
theorem dX5_foldNode_8 : decode cX5_foldNode 8 = .ok (.iconst 5, 1) := by decide +kernel
theorem dX5_foldNode_9 : decode cX5_foldNode 9 = .ok (.if_icmp .ge 25, 3) := by decide +kernel
theorem dX5_foldNode_12 : decode cX5_foldNode 12 = .ok (.lload 5, 2) := by decide +kernel
theorem dX5_foldNode_14 : decode cX5_foldNode 14 = .ok (.aload_n 0, 1) := by decide +kernel
theorem dX5_foldNode_15 : decode cX5_foldNode 15 = .ok (.iload_n 3, 1) := by decide +kernel
theorem dX5_foldNode_16 : decode cX5_foldNode 16 = .ok (.iload 4, 2) := by decide +kernel
theorem dX5_foldNode_18 : decode cX5_foldNode 18 = .ok (.iload 7, 2) := by decide +kernel
theorem dX5_foldNode_20 : decode cX5_foldNode 20 = .ok (.invokevirtual 339, 3) := by decide +kernel
theorem dX5_foldNode_23 : decode cX5_foldNode 23 = .ok (.invokestatic 294, 3) := by decide +kernel
theorem dX5_foldNode_26 : decode cX5_foldNode 26 = .ok (.lstore 5, 2) := by decide +kernel
theorem dX5_foldNode_28 : decode cX5_foldNode 28 = .ok (.iinc 7 1, 3) := by decide +kernel
theorem dX5_foldNode_31 : decode cX5_foldNode 31 = .ok (.goto (-25), 3) := by decide +kernel
theorem dX5_foldNode_34 : decode cX5_foldNode 34 = .ok (.lload 5, 2) := by decide +kernel
theorem dX5_foldNode_36 : decode cX5_foldNode 36 = .ok (.aload_n 0, 1) := by decide +kernel
theorem dX5_foldNode_37 : decode cX5_foldNode 37 = .ok (.iload_n 3, 1) := by decide +kernel
theorem dX5_foldNode_38 : decode cX5_foldNode 38 = .ok (.iload 4, 2) := by decide +kernel
theorem dX5_foldNode_40 : decode cX5_foldNode 40 = .ok (.invokevirtual 343, 3) := by decide +kernel
theorem dX5_foldNode_43 : decode cX5_foldNode 43 = .ok (.invokestatic 294, 3) := by decide +kernel
theorem dX5_foldNode_46 : decode cX5_foldNode 46 = .ok (.lreturn, 1) := by decide +kernel
theorem dX5_needPiece_0 : decode cX5_needPiece 0 = .ok (.iload_n 1, 1) := by decide +kernel
theorem dX5_needPiece_1 : decode cX5_needPiece 1 = .ok (.ifCond .lt 11, 3) := by decide +kernel
theorem dX5_needPiece_4 : decode cX5_needPiece 4 = .ok (.iload_n 1, 1) := by decide +kernel
theorem dX5_needPiece_5 : decode cX5_needPiece 5 = .ok (.aload_n 0, 1) := by decide +kernel
theorem dX5_needPiece_6 : decode cX5_needPiece 6 = .ok (.getfield 53, 3) := by decide +kernel
theorem dX5_needPiece_9 : decode cX5_needPiece 9 = .ok (.if_icmp .lt 14, 3) := by decide +kernel
theorem dX5_needPiece_12 : decode cX5_needPiece 12 = .ok (.new 119, 3) := by decide +kernel
theorem dX5_needPiece_15 : decode cX5_needPiece 15 = .ok (.dup, 1) := by decide +kernel
theorem dX5_needPiece_16 : decode cX5_needPiece 16 = .ok (.ldc_w 346, 3) := by decide +kernel
theorem dX5_needPiece_19 : decode cX5_needPiece 19 = .ok (.invokespecial 123, 3) := by decide +kernel
theorem dX5_needPiece_22 : decode cX5_needPiece 22 = .ok (.athrow, 1) := by decide +kernel
theorem dX5_needPiece_23 : decode cX5_needPiece 23 = .ok (.return_, 1) := by decide +kernel
theorem dX5_needLicence_0 : decode cX5_needLicence 0 = .ok (.iload_n 1, 1) := by decide +kernel
theorem dX5_needLicence_1 : decode cX5_needLicence 1 = .ok (.ifCond .lt 11, 3) := by decide +kernel
theorem dX5_needLicence_4 : decode cX5_needLicence 4 = .ok (.iload_n 1, 1) := by decide +kernel
theorem dX5_needLicence_5 : decode cX5_needLicence 5 = .ok (.aload_n 0, 1) := by decide +kernel
theorem dX5_needLicence_6 : decode cX5_needLicence 6 = .ok (.getfield 57, 3) := by decide +kernel
theorem dX5_needLicence_9 : decode cX5_needLicence 9 = .ok (.if_icmp .lt 14, 3) := by decide +kernel
theorem dX5_needLicence_12 : decode cX5_needLicence 12 = .ok (.new 119, 3) := by decide +kernel
theorem dX5_needLicence_15 : decode cX5_needLicence 15 = .ok (.dup, 1) := by decide +kernel
theorem dX5_needLicence_16 : decode cX5_needLicence 16 = .ok (.ldc_w 348, 3) := by decide +kernel
theorem dX5_needLicence_19 : decode cX5_needLicence 19 = .ok (.invokespecial 123, 3) := by decide +kernel
theorem dX5_needLicence_22 : decode cX5_needLicence 22 = .ok (.athrow, 1) := by decide +kernel
theorem dX5_needLicence_23 : decode cX5_needLicence 23 = .ok (.return_, 1) := by decide +kernel
theorem dX5_needProject_0 : decode cX5_needProject 0 = .ok (.iload_n 1, 1) := by decide +kernel
theorem dX5_needProject_1 : decode cX5_needProject 1 = .ok (.ifCond .lt 11, 3) := by decide +kernel
theorem dX5_needProject_4 : decode cX5_needProject 4 = .ok (.iload_n 1, 1) := by decide +kernel
theorem dX5_needProject_5 : decode cX5_needProject 5 = .ok (.aload_n 0, 1) := by decide +kernel
theorem dX5_needProject_6 : decode cX5_needProject 6 = .ok (.getfield 60, 3) := by decide +kernel
theorem dX5_needProject_9 : decode cX5_needProject 9 = .ok (.if_icmp .lt 14, 3) := by decide +kernel
theorem dX5_needProject_12 : decode cX5_needProject 12 = .ok (.new 119, 3) := by decide +kernel
theorem dX5_needProject_15 : decode cX5_needProject 15 = .ok (.dup, 1) := by decide +kernel
theorem dX5_needProject_16 : decode cX5_needProject 16 = .ok (.ldc_w 350, 3) := by decide +kernel
theorem dX5_needProject_19 : decode cX5_needProject 19 = .ok (.invokespecial 123, 3) := by decide +kernel
theorem dX5_needProject_22 : decode cX5_needProject 22 = .ok (.athrow, 1) := by decide +kernel
theorem dX5_needProject_23 : decode cX5_needProject 23 = .ok (.return_, 1) := by decide +kernel
theorem dX5_needNode_0 : decode cX5_needNode 0 = .ok (.aload_n 0, 1) := by decide +kernel
theorem dX5_needNode_1 : decode cX5_needNode 1 = .ok (.iload_n 1, 1) := by decide +kernel
theorem dX5_needNode_2 : decode cX5_needNode 2 = .ok (.invokevirtual 234, 3) := by decide +kernel
theorem dX5_needNode_5 : decode cX5_needNode 5 = .ok (.aload_n 0, 1) := by decide +kernel
theorem dX5_needNode_6 : decode cX5_needNode 6 = .ok (.getfield 39, 3) := by decide +kernel
theorem dX5_needNode_9 : decode cX5_needNode 9 = .ok (.iload_n 1, 1) := by decide +kernel
theorem dX5_needNode_10 : decode cX5_needNode 10 = .ok (.aaload, 1) := by decide +kernel
theorem dX5_needNode_11 : decode cX5_needNode 11 = .ok (.iload_n 2, 1) := by decide +kernel
theorem dX5_needNode_12 : decode cX5_needNode 12 = .ok (.invokevirtual 331, 3) := by decide +kernel
theorem dX5_needNode_15 : decode cX5_needNode 15 = .ok (.ifCond .ne 14, 3) := by decide +kernel
theorem dX5_needNode_18 : decode cX5_needNode 18 = .ok (.new 119, 3) := by decide +kernel
theorem dX5_needNode_21 : decode cX5_needNode 21 = .ok (.dup, 1) := by decide +kernel
theorem dX5_needNode_22 : decode cX5_needNode 22 = .ok (.ldc_w 352, 3) := by decide +kernel
theorem dX5_needNode_25 : decode cX5_needNode 25 = .ok (.invokespecial 123, 3) := by decide +kernel
theorem dX5_needNode_28 : decode cX5_needNode 28 = .ok (.athrow, 1) := by decide +kernel
theorem dX5_needNode_29 : decode cX5_needNode 29 = .ok (.return_, 1) := by decide +kernel
theorem dX5_needNearness_0 : decode cX5_needNearness 0 = .ok (.iload_n 0, 1) := by decide +kernel
theorem dX5_needNearness_1 : decode cX5_needNearness 1 = .ok (.iconst 1, 1) := by decide +kernel
theorem dX5_needNearness_2 : decode cX5_needNearness 2 = .ok (.if_icmp .lt 9, 3) := by decide +kernel
theorem dX5_needNearness_5 : decode cX5_needNearness 5 = .ok (.iload_n 0, 1) := by decide +kernel
theorem dX5_needNearness_6 : decode cX5_needNearness 6 = .ok (.bipush 100, 2) := by decide +kernel
theorem dX5_needNearness_8 : decode cX5_needNearness 8 = .ok (.if_icmp .le 14, 3) := by decide +kernel
theorem dX5_needNearness_11 : decode cX5_needNearness 11 = .ok (.new 72, 3) := by decide +kernel
theorem dX5_needNearness_14 : decode cX5_needNearness 14 = .ok (.dup, 1) := by decide +kernel
theorem dX5_needNearness_15 : decode cX5_needNearness 15 = .ok (.ldc_w 354, 3) := by decide +kernel
theorem dX5_needNearness_18 : decode cX5_needNearness 18 = .ok (.invokespecial 76, 3) := by decide +kernel
theorem dX5_needNearness_21 : decode cX5_needNearness 21 = .ok (.athrow, 1) := by decide +kernel
theorem dX5_needNearness_22 : decode cX5_needNearness 22 = .ok (.return_, 1) := by decide +kernel
theorem dX5_hasBit_0 : decode cX5_hasBit 0 = .ok (.iload_n 0, 1) := by decide +kernel
theorem dX5_hasBit_1 : decode cX5_hasBit 1 = .ok (.iload_n 1, 1) := by decide +kernel
theorem dX5_hasBit_2 : decode cX5_hasBit 2 = .ok (.ishr, 1) := by decide +kernel
theorem dX5_hasBit_3 : decode cX5_hasBit 3 = .ok (.iconst 1, 1) := by decide +kernel
theorem dX5_hasBit_4 : decode cX5_hasBit 4 = .ok (.iand, 1) := by decide +kernel
theorem dX5_hasBit_5 : decode cX5_hasBit 5 = .ok (.iconst 1, 1) := by decide +kernel
theorem dX5_hasBit_6 : decode cX5_hasBit 6 = .ok (.if_icmp .ne 7, 3) := by decide +kernel
theorem dX5_hasBit_9 : decode cX5_hasBit 9 = .ok (.iconst 1, 1) := by decide +kernel
theorem dX5_hasBit_10 : decode cX5_hasBit 10 = .ok (.goto 4, 3) := by decide +kernel
theorem dX5_hasBit_13 : decode cX5_hasBit 13 = .ok (.iconst 0, 1) := by decide +kernel
theorem dX5_hasBit_14 : decode cX5_hasBit 14 = .ok (.ireturn, 1) := by decide +kernel
theorem dX5_takeShares_0 : decode cX5_takeShares 0 = .ok (.aload_n 0, 1) := by decide +kernel
theorem dX5_takeShares_1 : decode cX5_takeShares 1 = .ok (.getfield 18, 3) := by decide +kernel
theorem dX5_takeShares_4 : decode cX5_takeShares 4 = .ok (.iload_n 1, 1) := by decide +kernel
theorem dX5_takeShares_5 : decode cX5_takeShares 5 = .ok (.aaload, 1) := by decide +kernel
theorem dX5_takeShares_6 : decode cX5_takeShares 6 = .ok (.getfield 101, 3) := by decide +kernel
theorem dX5_takeShares_9 : decode cX5_takeShares 9 = .ok (.astore_n 2, 1) := by decide +kernel
theorem dX5_takeShares_10 : decode cX5_takeShares 10 = .ok (.iconst 0, 1) := by decide +kernel
theorem dX5_takeShares_11 : decode cX5_takeShares 11 = .ok (.istore_n 3, 1) := by decide +kernel
theorem dX5_takeShares_12 : decode cX5_takeShares 12 = .ok (.iload_n 3, 1) := by decide +kernel
theorem dX5_takeShares_13 : decode cX5_takeShares 13 = .ok (.iload_n 1, 1) := by decide +kernel
theorem dX5_takeShares_14 : decode cX5_takeShares 14 = .ok (.if_icmp .gt 44, 3) := by decide +kernel
theorem dX5_takeShares_17 : decode cX5_takeShares 17 = .ok (.aload_n 2, 1) := by decide +kernel
theorem dX5_takeShares_18 : decode cX5_takeShares 18 = .ok (.aload_n 0, 1) := by decide +kernel
theorem dX5_takeShares_19 : decode cX5_takeShares 19 = .ok (.getfield 18, 3) := by decide +kernel
theorem dX5_takeShares_22 : decode cX5_takeShares 22 = .ok (.iload_n 3, 1) := by decide +kernel
theorem dX5_takeShares_23 : decode cX5_takeShares 23 = .ok (.aaload, 1) := by decide +kernel
theorem dX5_takeShares_24 : decode cX5_takeShares 24 = .ok (.getfield 101, 3) := by decide +kernel
theorem dX5_takeShares_27 : decode cX5_takeShares 27 = .ok (.invokevirtual 127, 3) := by decide +kernel
theorem dX5_takeShares_30 : decode cX5_takeShares 30 = .ok (.istore 4, 2) := by decide +kernel
theorem dX5_takeShares_32 : decode cX5_takeShares 32 = .ok (.aload_n 0, 1) := by decide +kernel
theorem dX5_takeShares_33 : decode cX5_takeShares 33 = .ok (.getfield 24, 3) := by decide +kernel
theorem dX5_takeShares_36 : decode cX5_takeShares 36 = .ok (.iload_n 1, 1) := by decide +kernel
theorem dX5_takeShares_37 : decode cX5_takeShares 37 = .ok (.aaload, 1) := by decide +kernel
theorem dX5_takeShares_38 : decode cX5_takeShares 38 = .ok (.iload_n 3, 1) := by decide +kernel
theorem dX5_takeShares_39 : decode cX5_takeShares 39 = .ok (.iload 4, 2) := by decide +kernel
theorem dX5_takeShares_41 : decode cX5_takeShares 41 = .ok (.iastore, 1) := by decide +kernel
theorem dX5_takeShares_42 : decode cX5_takeShares 42 = .ok (.aload_n 0, 1) := by decide +kernel
theorem dX5_takeShares_43 : decode cX5_takeShares 43 = .ok (.getfield 24, 3) := by decide +kernel
theorem dX5_takeShares_46 : decode cX5_takeShares 46 = .ok (.iload_n 3, 1) := by decide +kernel
theorem dX5_takeShares_47 : decode cX5_takeShares 47 = .ok (.aaload, 1) := by decide +kernel
theorem dX5_takeShares_48 : decode cX5_takeShares 48 = .ok (.iload_n 1, 1) := by decide +kernel
theorem dX5_takeShares_49 : decode cX5_takeShares 49 = .ok (.iload 4, 2) := by decide +kernel
theorem dX5_takeShares_51 : decode cX5_takeShares 51 = .ok (.iastore, 1) := by decide +kernel
theorem dX5_takeShares_52 : decode cX5_takeShares 52 = .ok (.iinc 3 1, 3) := by decide +kernel
theorem dX5_takeShares_55 : decode cX5_takeShares 55 = .ok (.goto (-43), 3) := by decide +kernel
theorem dX5_takeShares_58 : decode cX5_takeShares 58 = .ok (.return_, 1) := by decide +kernel
theorem dX5_takeRivals_0 : decode cX5_takeRivals 0 = .ok (.aload_n 0, 1) := by decide +kernel
theorem dX5_takeRivals_1 : decode cX5_takeRivals 1 = .ok (.getfield 33, 3) := by decide +kernel
theorem dX5_takeRivals_4 : decode cX5_takeRivals 4 = .ok (.iload_n 1, 1) := by decide +kernel
theorem dX5_takeRivals_5 : decode cX5_takeRivals 5 = .ok (.aaload, 1) := by decide +kernel
theorem dX5_takeRivals_6 : decode cX5_takeRivals 6 = .ok (.astore_n 2, 1) := by decide +kernel
theorem dX5_takeRivals_7 : decode cX5_takeRivals 7 = .ok (.iconst 0, 1) := by decide +kernel
theorem dX5_takeRivals_8 : decode cX5_takeRivals 8 = .ok (.istore_n 3, 1) := by decide +kernel
theorem dX5_takeRivals_9 : decode cX5_takeRivals 9 = .ok (.iload_n 3, 1) := by decide +kernel
theorem dX5_takeRivals_10 : decode cX5_takeRivals 10 = .ok (.iload_n 1, 1) := by decide +kernel
theorem dX5_takeRivals_11 : decode cX5_takeRivals 11 = .ok (.if_icmp .gt 51, 3) := by decide +kernel
theorem dX5_takeRivals_14 : decode cX5_takeRivals 14 = .ok (.aload_n 2, 1) := by decide +kernel
theorem dX5_takeRivals_15 : decode cX5_takeRivals 15 = .ok (.aload_n 0, 1) := by decide +kernel
theorem dX5_takeRivals_16 : decode cX5_takeRivals 16 = .ok (.getfield 33, 3) := by decide +kernel
theorem dX5_takeRivals_19 : decode cX5_takeRivals 19 = .ok (.iload_n 3, 1) := by decide +kernel
theorem dX5_takeRivals_20 : decode cX5_takeRivals 20 = .ok (.aaload, 1) := by decide +kernel
theorem dX5_takeRivals_21 : decode cX5_takeRivals 21 = .ok (.invokevirtual 356, 3) := by decide +kernel
theorem dX5_takeRivals_24 : decode cX5_takeRivals 24 = .ok (.ifCond .eq 32, 3) := by decide +kernel
theorem dX5_takeRivals_27 : decode cX5_takeRivals 27 = .ok (.aload_n 2, 1) := by decide +kernel
theorem dX5_takeRivals_28 : decode cX5_takeRivals 28 = .ok (.dup, 1) := by decide +kernel
theorem dX5_takeRivals_29 : decode cX5_takeRivals 29 = .ok (.getfield 180, 3) := by decide +kernel
theorem dX5_takeRivals_32 : decode cX5_takeRivals 32 = .ok (.iconst 1, 1) := by decide +kernel
theorem dX5_takeRivals_33 : decode cX5_takeRivals 33 = .ok (.iload_n 3, 1) := by decide +kernel
theorem dX5_takeRivals_34 : decode cX5_takeRivals 34 = .ok (.ishl, 1) := by decide +kernel
theorem dX5_takeRivals_35 : decode cX5_takeRivals 35 = .ok (.ior, 1) := by decide +kernel
theorem dX5_takeRivals_36 : decode cX5_takeRivals 36 = .ok (.putfield 180, 3) := by decide +kernel
theorem dX5_takeRivals_39 : decode cX5_takeRivals 39 = .ok (.aload_n 0, 1) := by decide +kernel
theorem dX5_takeRivals_40 : decode cX5_takeRivals 40 = .ok (.getfield 33, 3) := by decide +kernel
theorem dX5_takeRivals_43 : decode cX5_takeRivals 43 = .ok (.iload_n 3, 1) := by decide +kernel
theorem dX5_takeRivals_44 : decode cX5_takeRivals 44 = .ok (.aaload, 1) := by decide +kernel
theorem dX5_takeRivals_45 : decode cX5_takeRivals 45 = .ok (.dup, 1) := by decide +kernel
theorem dX5_takeRivals_46 : decode cX5_takeRivals 46 = .ok (.getfield 180, 3) := by decide +kernel
theorem dX5_takeRivals_49 : decode cX5_takeRivals 49 = .ok (.iconst 1, 1) := by decide +kernel
theorem dX5_takeRivals_50 : decode cX5_takeRivals 50 = .ok (.iload_n 1, 1) := by decide +kernel
theorem dX5_takeRivals_51 : decode cX5_takeRivals 51 = .ok (.ishl, 1) := by decide +kernel
theorem dX5_takeRivals_52 : decode cX5_takeRivals 52 = .ok (.ior, 1) := by decide +kernel
theorem dX5_takeRivals_53 : decode cX5_takeRivals 53 = .ok (.putfield 180, 3) := by decide +kernel
theorem dX5_takeRivals_56 : decode cX5_takeRivals 56 = .ok (.iinc 3 1, 3) := by decide +kernel
theorem dX5_takeRivals_59 : decode cX5_takeRivals 59 = .ok (.goto (-50), 3) := by decide +kernel
theorem dX5_takeRivals_62 : decode cX5_takeRivals 62 = .ok (.return_, 1) := by decide +kernel
theorem dX5_settle_0 : decode cX5_settle 0 = .ok (.aload_n 0, 1) := by decide +kernel
theorem dX5_settle_1 : decode cX5_settle 1 = .ok (.invokevirtual 360, 3) := by decide +kernel
theorem dX5_settle_4 : decode cX5_settle 4 = .ok (.aload_n 0, 1) := by decide +kernel
theorem dX5_settle_5 : decode cX5_settle 5 = .ok (.aload_n 0, 1) := by decide +kernel
theorem dX5_settle_6 : decode cX5_settle 6 = .ok (.getfield 46, 3) := by decide +kernel
theorem dX5_settle_9 : decode cX5_settle 9 = .ok (.aload_n 0, 1) := by decide +kernel
theorem dX5_settle_10 : decode cX5_settle 10 = .ok (.getfield 66, 3) := by decide +kernel
theorem dX5_settle_13 : decode cX5_settle 13 = .ok (.iconst (-1), 1) := by decide +kernel
theorem dX5_settle_14 : decode cX5_settle 14 = .ok (.iconst (-1), 1) := by decide +kernel
theorem dX5_settle_15 : decode cX5_settle 15 = .ok (.invokevirtual 279, 3) := by decide +kernel
theorem dX5_settle_18 : decode cX5_settle 18 = .ok (.iconst 0, 1) := by decide +kernel
theorem dX5_settle_19 : decode cX5_settle 19 = .ok (.istore_n 1, 1) := by decide +kernel
theorem dX5_settle_20 : decode cX5_settle 20 = .ok (.iconst 0, 1) := by decide +kernel
theorem dX5_settle_21 : decode cX5_settle 21 = .ok (.istore_n 2, 1) := by decide +kernel
theorem dX5_settle_22 : decode cX5_settle 22 = .ok (.iload_n 2, 1) := by decide +kernel
theorem dX5_settle_23 : decode cX5_settle 23 = .ok (.aload_n 0, 1) := by decide +kernel
theorem dX5_settle_24 : decode cX5_settle 24 = .ok (.getfield 60, 3) := by decide +kernel
theorem dX5_settle_27 : decode cX5_settle 27 = .ok (.if_icmp .ge 53, 3) := by decide +kernel
theorem dX5_settle_30 : decode cX5_settle 30 = .ok (.aload_n 0, 1) := by decide +kernel
theorem dX5_settle_31 : decode cX5_settle 31 = .ok (.getfield 39, 3) := by decide +kernel
theorem dX5_settle_34 : decode cX5_settle 34 = .ok (.iload_n 2, 1) := by decide +kernel
theorem dX5_settle_35 : decode cX5_settle 35 = .ok (.aaload, 1) := by decide +kernel
theorem dX5_settle_36 : decode cX5_settle 36 = .ok (.aload_n 0, 1) := by decide +kernel
theorem dX5_settle_37 : decode cX5_settle 37 = .ok (.getfield 46, 3) := by decide +kernel
theorem dX5_settle_40 : decode cX5_settle 40 = .ok (.invokevirtual 283, 3) := by decide +kernel
theorem dX5_settle_43 : decode cX5_settle 43 = .ok (.ifCond .eq 31, 3) := by decide +kernel
theorem dX5_settle_46 : decode cX5_settle 46 = .ok (.aload_n 0, 1) := by decide +kernel
theorem dX5_settle_47 : decode cX5_settle 47 = .ok (.getfield 39, 3) := by decide +kernel
theorem dX5_settle_50 : decode cX5_settle 50 = .ok (.iload_n 2, 1) := by decide +kernel
theorem dX5_settle_51 : decode cX5_settle 51 = .ok (.aaload, 1) := by decide +kernel
theorem dX5_settle_52 : decode cX5_settle 52 = .ok (.iconst 2, 1) := by decide +kernel
theorem dX5_settle_53 : decode cX5_settle 53 = .ok (.putfield 242, 3) := by decide +kernel
theorem dX5_settle_56 : decode cX5_settle 56 = .ok (.aload_n 0, 1) := by decide +kernel
theorem dX5_settle_57 : decode cX5_settle 57 = .ok (.getfield 39, 3) := by decide +kernel
theorem dX5_settle_60 : decode cX5_settle 60 = .ok (.iload_n 2, 1) := by decide +kernel
theorem dX5_settle_61 : decode cX5_settle 61 = .ok (.aaload, 1) := by decide +kernel
theorem dX5_settle_62 : decode cX5_settle 62 = .ok (.dup, 1) := by decide +kernel
theorem dX5_settle_63 : decode cX5_settle 63 = .ok (.getfield 253, 3) := by decide +kernel
theorem dX5_settle_66 : decode cX5_settle 66 = .ok (.iconst 1, 1) := by decide +kernel
theorem dX5_settle_67 : decode cX5_settle 67 = .ok (.iadd, 1) := by decide +kernel
theorem dX5_settle_68 : decode cX5_settle 68 = .ok (.putfield 253, 3) := by decide +kernel
theorem dX5_settle_71 : decode cX5_settle 71 = .ok (.iinc 1 1, 3) := by decide +kernel
theorem dX5_settle_74 : decode cX5_settle 74 = .ok (.iinc 2 1, 3) := by decide +kernel
theorem dX5_settle_77 : decode cX5_settle 77 = .ok (.goto (-55), 3) := by decide +kernel
theorem dX5_settle_80 : decode cX5_settle 80 = .ok (.iload_n 1, 1) := by decide +kernel
theorem dX5_settle_81 : decode cX5_settle 81 = .ok (.ireturn, 1) := by decide +kernel
theorem dX5_takeOrigins_0 : decode cX5_takeOrigins 0 = .ok (.iconst 0, 1) := by decide +kernel
theorem dX5_takeOrigins_1 : decode cX5_takeOrigins 1 = .ok (.istore_n 1, 1) := by decide +kernel
theorem dX5_takeOrigins_2 : decode cX5_takeOrigins 2 = .ok (.iload_n 1, 1) := by decide +kernel
theorem dX5_takeOrigins_3 : decode cX5_takeOrigins 3 = .ok (.aload_n 0, 1) := by decide +kernel
theorem dX5_takeOrigins_4 : decode cX5_takeOrigins 4 = .ok (.getfield 53, 3) := by decide +kernel
theorem dX5_takeOrigins_7 : decode cX5_takeOrigins 7 = .ok (.if_icmp .ge 59, 3) := by decide +kernel
theorem dX5_takeOrigins_10 : decode cX5_takeOrigins 10 = .ok (.iconst 0, 1) := by decide +kernel
theorem dX5_takeOrigins_11 : decode cX5_takeOrigins 11 = .ok (.istore_n 2, 1) := by decide +kernel
theorem dX5_takeOrigins_12 : decode cX5_takeOrigins 12 = .ok (.iconst 0, 1) := by decide +kernel
theorem dX5_takeOrigins_13 : decode cX5_takeOrigins 13 = .ok (.istore_n 3, 1) := by decide +kernel
theorem dX5_takeOrigins_14 : decode cX5_takeOrigins 14 = .ok (.iload_n 3, 1) := by decide +kernel
theorem dX5_takeOrigins_15 : decode cX5_takeOrigins 15 = .ok (.iload_n 1, 1) := by decide +kernel
theorem dX5_takeOrigins_16 : decode cX5_takeOrigins 16 = .ok (.if_icmp .ge 37, 3) := by decide +kernel
theorem dX5_takeOrigins_19 : decode cX5_takeOrigins 19 = .ok (.aload_n 0, 1) := by decide +kernel
theorem dX5_takeOrigins_20 : decode cX5_takeOrigins 20 = .ok (.getfield 24, 3) := by decide +kernel
theorem dX5_takeOrigins_23 : decode cX5_takeOrigins 23 = .ok (.iload_n 1, 1) := by decide +kernel
theorem dX5_takeOrigins_24 : decode cX5_takeOrigins 24 = .ok (.aaload, 1) := by decide +kernel
theorem dX5_takeOrigins_25 : decode cX5_takeOrigins 25 = .ok (.iload_n 3, 1) := by decide +kernel
theorem dX5_takeOrigins_26 : decode cX5_takeOrigins 26 = .ok (.iaload, 1) := by decide +kernel
theorem dX5_takeOrigins_27 : decode cX5_takeOrigins 27 = .ok (.aload_n 0, 1) := by decide +kernel
theorem dX5_takeOrigins_28 : decode cX5_takeOrigins 28 = .ok (.getfield 66, 3) := by decide +kernel
theorem dX5_takeOrigins_31 : decode cX5_takeOrigins 31 = .ok (.if_icmp .lt 16, 3) := by decide +kernel
theorem dX5_takeOrigins_34 : decode cX5_takeOrigins 34 = .ok (.iload_n 2, 1) := by decide +kernel
theorem dX5_takeOrigins_35 : decode cX5_takeOrigins 35 = .ok (.iconst 1, 1) := by decide +kernel
theorem dX5_takeOrigins_36 : decode cX5_takeOrigins 36 = .ok (.iload_n 3, 1) := by decide +kernel
theorem dX5_takeOrigins_37 : decode cX5_takeOrigins 37 = .ok (.ishl, 1) := by decide +kernel
theorem dX5_takeOrigins_38 : decode cX5_takeOrigins 38 = .ok (.aload_n 0, 1) := by decide +kernel
theorem dX5_takeOrigins_39 : decode cX5_takeOrigins 39 = .ok (.getfield 27, 3) := by decide +kernel
theorem dX5_takeOrigins_42 : decode cX5_takeOrigins 42 = .ok (.iload_n 3, 1) := by decide +kernel
theorem dX5_takeOrigins_43 : decode cX5_takeOrigins 43 = .ok (.iaload, 1) := by decide +kernel
theorem dX5_takeOrigins_44 : decode cX5_takeOrigins 44 = .ok (.ior, 1) := by decide +kernel
theorem dX5_takeOrigins_45 : decode cX5_takeOrigins 45 = .ok (.ior, 1) := by decide +kernel
theorem dX5_takeOrigins_46 : decode cX5_takeOrigins 46 = .ok (.istore_n 2, 1) := by decide +kernel
theorem dX5_takeOrigins_47 : decode cX5_takeOrigins 47 = .ok (.iinc 3 1, 3) := by decide +kernel
theorem dX5_takeOrigins_50 : decode cX5_takeOrigins 50 = .ok (.goto (-36), 3) := by decide +kernel
theorem dX5_takeOrigins_53 : decode cX5_takeOrigins 53 = .ok (.aload_n 0, 1) := by decide +kernel
theorem dX5_takeOrigins_54 : decode cX5_takeOrigins 54 = .ok (.getfield 27, 3) := by decide +kernel
theorem dX5_takeOrigins_57 : decode cX5_takeOrigins 57 = .ok (.iload_n 1, 1) := by decide +kernel
theorem dX5_takeOrigins_58 : decode cX5_takeOrigins 58 = .ok (.iload_n 2, 1) := by decide +kernel
theorem dX5_takeOrigins_59 : decode cX5_takeOrigins 59 = .ok (.iastore, 1) := by decide +kernel
theorem dX5_takeOrigins_60 : decode cX5_takeOrigins 60 = .ok (.iinc 1 1, 3) := by decide +kernel
theorem dX5_takeOrigins_63 : decode cX5_takeOrigins 63 = .ok (.goto (-61), 3) := by decide +kernel
theorem dX5_takeOrigins_66 : decode cX5_takeOrigins 66 = .ok (.return_, 1) := by decide +kernel
theorem dX5_bind_0 : decode cX5_bind 0 = .ok (.iconst 0, 1) := by decide +kernel
theorem dX5_bind_1 : decode cX5_bind 1 = .ok (.istore 5, 2) := by decide +kernel
theorem dX5_bind_3 : decode cX5_bind 3 = .ok (.iload 5, 2) := by decide +kernel
theorem dX5_bind_5 : decode cX5_bind 5 = .ok (.aload_n 0, 1) := by decide +kernel
theorem dX5_bind_6 : decode cX5_bind 6 = .ok (.getfield 53, 3) := by decide +kernel
theorem dX5_bind_9 : decode cX5_bind 9 = .ok (.if_icmp .ge 114, 3) := by decide +kernel
theorem dX5_bind_12 : decode cX5_bind 12 = .ok (.iload 5, 2) := by decide +kernel
theorem dX5_bind_14 : decode cX5_bind 14 = .ok (.iload_n 3, 1) := by decide +kernel
theorem dX5_bind_15 : decode cX5_bind 15 = .ok (.if_icmp .ne 8, 3) := by decide +kernel
theorem dX5_bind_18 : decode cX5_bind 18 = .ok (.iload 4, 2) := by decide +kernel
theorem dX5_bind_20 : decode cX5_bind 20 = .ok (.goto 13, 3) := by decide +kernel
theorem dX5_bind_23 : decode cX5_bind 23 = .ok (.aload_n 0, 1) := by decide +kernel
theorem dX5_bind_24 : decode cX5_bind 24 = .ok (.getfield 18, 3) := by decide +kernel
theorem dX5_bind_27 : decode cX5_bind 27 = .ok (.iload 5, 2) := by decide +kernel
theorem dX5_bind_29 : decode cX5_bind 29 = .ok (.aaload, 1) := by decide +kernel
theorem dX5_bind_30 : decode cX5_bind 30 = .ok (.getfield 134, 3) := by decide +kernel
theorem dX5_bind_33 : decode cX5_bind 33 = .ok (.istore 6, 2) := by decide +kernel
theorem dX5_bind_35 : decode cX5_bind 35 = .ok (.iload 6, 2) := by decide +kernel
theorem dX5_bind_37 : decode cX5_bind 37 = .ok (.iconst (-1), 1) := by decide +kernel
theorem dX5_bind_38 : decode cX5_bind 38 = .ok (.if_icmp .ne 7, 3) := by decide +kernel
theorem dX5_bind_41 : decode cX5_bind 41 = .ok (.iconst 0, 1) := by decide +kernel
theorem dX5_bind_42 : decode cX5_bind 42 = .ok (.goto 7, 3) := by decide +kernel
theorem dX5_bind_45 : decode cX5_bind 45 = .ok (.iconst 1, 1) := by decide +kernel
theorem dX5_bind_46 : decode cX5_bind 46 = .ok (.iload 6, 2) := by decide +kernel
theorem dX5_bind_48 : decode cX5_bind 48 = .ok (.ishl, 1) := by decide +kernel
theorem dX5_bind_49 : decode cX5_bind 49 = .ok (.istore 7, 2) := by decide +kernel
theorem dX5_bind_51 : decode cX5_bind 51 = .ok (.iconst 0, 1) := by decide +kernel
theorem dX5_bind_52 : decode cX5_bind 52 = .ok (.istore 8, 2) := by decide +kernel
theorem dX5_bind_54 : decode cX5_bind 54 = .ok (.iload 8, 2) := by decide +kernel
theorem dX5_bind_56 : decode cX5_bind 56 = .ok (.iload 5, 2) := by decide +kernel
theorem dX5_bind_58 : decode cX5_bind 58 = .ok (.if_icmp .ge 34, 3) := by decide +kernel
theorem dX5_bind_61 : decode cX5_bind 61 = .ok (.aload_n 0, 1) := by decide +kernel
theorem dX5_bind_62 : decode cX5_bind 62 = .ok (.getfield 24, 3) := by decide +kernel
theorem dX5_bind_65 : decode cX5_bind 65 = .ok (.iload 5, 2) := by decide +kernel
theorem dX5_bind_67 : decode cX5_bind 67 = .ok (.aaload, 1) := by decide +kernel
theorem dX5_bind_68 : decode cX5_bind 68 = .ok (.iload 8, 2) := by decide +kernel
theorem dX5_bind_70 : decode cX5_bind 70 = .ok (.iaload, 1) := by decide +kernel
theorem dX5_bind_71 : decode cX5_bind 71 = .ok (.iload_n 2, 1) := by decide +kernel
theorem dX5_bind_72 : decode cX5_bind 72 = .ok (.if_icmp .lt 14, 3) := by decide +kernel
theorem dX5_bind_75 : decode cX5_bind 75 = .ok (.iload 7, 2) := by decide +kernel
theorem dX5_bind_77 : decode cX5_bind 77 = .ok (.aload_n 1, 1) := by decide +kernel
theorem dX5_bind_78 : decode cX5_bind 78 = .ok (.iload 8, 2) := by decide +kernel
theorem dX5_bind_80 : decode cX5_bind 80 = .ok (.invokevirtual 137, 3) := by decide +kernel
theorem dX5_bind_83 : decode cX5_bind 83 = .ok (.ior, 1) := by decide +kernel
theorem dX5_bind_84 : decode cX5_bind 84 = .ok (.istore 7, 2) := by decide +kernel
theorem dX5_bind_86 : decode cX5_bind 86 = .ok (.iinc 8 1, 3) := by decide +kernel
theorem dX5_bind_89 : decode cX5_bind 89 = .ok (.goto (-35), 3) := by decide +kernel
theorem dX5_bind_92 : decode cX5_bind 92 = .ok (.aload_n 1, 1) := by decide +kernel
theorem dX5_bind_93 : decode cX5_bind 93 = .ok (.iload 5, 2) := by decide +kernel
theorem dX5_bind_95 : decode cX5_bind 95 = .ok (.iload 7, 2) := by decide +kernel
theorem dX5_bind_97 : decode cX5_bind 97 = .ok (.aload_n 0, 1) := by decide +kernel
theorem dX5_bind_98 : decode cX5_bind 98 = .ok (.getfield 18, 3) := by decide +kernel
theorem dX5_bind_101 : decode cX5_bind 101 = .ok (.iload 5, 2) := by decide +kernel
theorem dX5_bind_103 : decode cX5_bind 103 = .ok (.aaload, 1) := by decide +kernel
theorem dX5_bind_104 : decode cX5_bind 104 = .ok (.getfield 141, 3) := by decide +kernel
theorem dX5_bind_107 : decode cX5_bind 107 = .ok (.iconst (-1), 1) := by decide +kernel
theorem dX5_bind_108 : decode cX5_bind 108 = .ok (.ixor, 1) := by decide +kernel
theorem dX5_bind_109 : decode cX5_bind 109 = .ok (.iand, 1) := by decide +kernel
theorem dX5_bind_110 : decode cX5_bind 110 = .ok (.aload_n 0, 1) := by decide +kernel
theorem dX5_bind_111 : decode cX5_bind 111 = .ok (.getfield 33, 3) := by decide +kernel
theorem dX5_bind_114 : decode cX5_bind 114 = .ok (.invokevirtual 363, 3) := by decide +kernel
theorem dX5_bind_117 : decode cX5_bind 117 = .ok (.iinc 5 1, 3) := by decide +kernel
theorem dX5_bind_120 : decode cX5_bind 120 = .ok (.goto (-117), 3) := by decide +kernel
theorem dX5_bind_123 : decode cX5_bind 123 = .ok (.return_, 1) := by decide +kernel
theorem dX5_offspring_0 : decode cX5_offspring 0 = .ok (.iconst 0, 1) := by decide +kernel
theorem dX5_offspring_1 : decode cX5_offspring 1 = .ok (.istore_n 2, 1) := by decide +kernel
theorem dX5_offspring_2 : decode cX5_offspring 2 = .ok (.iload_n 1, 1) := by decide +kernel
theorem dX5_offspring_3 : decode cX5_offspring 3 = .ok (.iconst 1, 1) := by decide +kernel
theorem dX5_offspring_4 : decode cX5_offspring 4 = .ok (.iadd, 1) := by decide +kernel
theorem dX5_offspring_5 : decode cX5_offspring 5 = .ok (.istore_n 3, 1) := by decide +kernel
theorem dX5_offspring_6 : decode cX5_offspring 6 = .ok (.iload_n 3, 1) := by decide +kernel
theorem dX5_offspring_7 : decode cX5_offspring 7 = .ok (.aload_n 0, 1) := by decide +kernel
theorem dX5_offspring_8 : decode cX5_offspring 8 = .ok (.getfield 53, 3) := by decide +kernel
theorem dX5_offspring_11 : decode cX5_offspring 11 = .ok (.if_icmp .ge 28, 3) := by decide +kernel
theorem dX5_offspring_14 : decode cX5_offspring 14 = .ok (.aload_n 0, 1) := by decide +kernel
theorem dX5_offspring_15 : decode cX5_offspring 15 = .ok (.getfield 27, 3) := by decide +kernel
theorem dX5_offspring_18 : decode cX5_offspring 18 = .ok (.iload_n 3, 1) := by decide +kernel
theorem dX5_offspring_19 : decode cX5_offspring 19 = .ok (.iaload, 1) := by decide +kernel
theorem dX5_offspring_20 : decode cX5_offspring 20 = .ok (.iload_n 1, 1) := by decide +kernel
theorem dX5_offspring_21 : decode cX5_offspring 21 = .ok (.invokestatic 188, 3) := by decide +kernel
theorem dX5_offspring_24 : decode cX5_offspring 24 = .ok (.ifCond .eq 9, 3) := by decide +kernel
theorem dX5_offspring_27 : decode cX5_offspring 27 = .ok (.iload_n 2, 1) := by decide +kernel
theorem dX5_offspring_28 : decode cX5_offspring 28 = .ok (.iconst 1, 1) := by decide +kernel
theorem dX5_offspring_29 : decode cX5_offspring 29 = .ok (.iload_n 3, 1) := by decide +kernel
theorem dX5_offspring_30 : decode cX5_offspring 30 = .ok (.ishl, 1) := by decide +kernel
theorem dX5_offspring_31 : decode cX5_offspring 31 = .ok (.ior, 1) := by decide +kernel
theorem dX5_offspring_32 : decode cX5_offspring 32 = .ok (.istore_n 2, 1) := by decide +kernel
theorem dX5_offspring_33 : decode cX5_offspring 33 = .ok (.iinc 3 1, 3) := by decide +kernel
theorem dX5_offspring_36 : decode cX5_offspring 36 = .ok (.goto (-30), 3) := by decide +kernel
theorem dX5_offspring_39 : decode cX5_offspring 39 = .ok (.iload_n 2, 1) := by decide +kernel
theorem dX5_offspring_40 : decode cX5_offspring 40 = .ok (.ireturn, 1) := by decide +kernel
theorem dX5_usesOf_0 : decode cX5_usesOf 0 = .ok (.iconst 0, 1) := by decide +kernel
theorem dX5_usesOf_1 : decode cX5_usesOf 1 = .ok (.istore_n 2, 1) := by decide +kernel
theorem dX5_usesOf_2 : decode cX5_usesOf 2 = .ok (.iconst 0, 1) := by decide +kernel
theorem dX5_usesOf_3 : decode cX5_usesOf 3 = .ok (.istore_n 3, 1) := by decide +kernel
theorem dX5_usesOf_4 : decode cX5_usesOf 4 = .ok (.iload_n 3, 1) := by decide +kernel
theorem dX5_usesOf_5 : decode cX5_usesOf 5 = .ok (.aload_n 0, 1) := by decide +kernel
theorem dX5_usesOf_6 : decode cX5_usesOf 6 = .ok (.getfield 60, 3) := by decide +kernel
theorem dX5_usesOf_9 : decode cX5_usesOf 9 = .ok (.if_icmp .ge 22, 3) := by decide +kernel
theorem dX5_usesOf_12 : decode cX5_usesOf 12 = .ok (.iload_n 2, 1) := by decide +kernel
theorem dX5_usesOf_13 : decode cX5_usesOf 13 = .ok (.aload_n 0, 1) := by decide +kernel
theorem dX5_usesOf_14 : decode cX5_usesOf 14 = .ok (.getfield 39, 3) := by decide +kernel
theorem dX5_usesOf_17 : decode cX5_usesOf 17 = .ok (.iload_n 3, 1) := by decide +kernel
theorem dX5_usesOf_18 : decode cX5_usesOf 18 = .ok (.aaload, 1) := by decide +kernel
theorem dX5_usesOf_19 : decode cX5_usesOf 19 = .ok (.iload_n 1, 1) := by decide +kernel
theorem dX5_usesOf_20 : decode cX5_usesOf 20 = .ok (.invokevirtual 367, 3) := by decide +kernel
theorem dX5_usesOf_23 : decode cX5_usesOf 23 = .ok (.iadd, 1) := by decide +kernel
theorem dX5_usesOf_24 : decode cX5_usesOf 24 = .ok (.istore_n 2, 1) := by decide +kernel
theorem dX5_usesOf_25 : decode cX5_usesOf 25 = .ok (.iinc 3 1, 3) := by decide +kernel
theorem dX5_usesOf_28 : decode cX5_usesOf 28 = .ok (.goto (-24), 3) := by decide +kernel
theorem dX5_usesOf_31 : decode cX5_usesOf 31 = .ok (.iload_n 2, 1) := by decide +kernel
theorem dX5_usesOf_32 : decode cX5_usesOf 32 = .ok (.ireturn, 1) := by decide +kernel
theorem dX5_piecesBoundBy_0 : decode cX5_piecesBoundBy 0 = .ok (.iconst 0, 1) := by decide +kernel
theorem dX5_piecesBoundBy_1 : decode cX5_piecesBoundBy 1 = .ok (.istore_n 2, 1) := by decide +kernel
theorem dX5_piecesBoundBy_2 : decode cX5_piecesBoundBy 2 = .ok (.iconst 0, 1) := by decide +kernel
theorem dX5_piecesBoundBy_3 : decode cX5_piecesBoundBy 3 = .ok (.istore_n 3, 1) := by decide +kernel
theorem dX5_piecesBoundBy_4 : decode cX5_piecesBoundBy 4 = .ok (.iload_n 3, 1) := by decide +kernel
theorem dX5_piecesBoundBy_5 : decode cX5_piecesBoundBy 5 = .ok (.aload_n 0, 1) := by decide +kernel
theorem dX5_piecesBoundBy_6 : decode cX5_piecesBoundBy 6 = .ok (.getfield 53, 3) := by decide +kernel
theorem dX5_piecesBoundBy_9 : decode cX5_piecesBoundBy 9 = .ok (.if_icmp .ge 27, 3) := by decide +kernel
theorem dX5_piecesBoundBy_12 : decode cX5_piecesBoundBy 12 = .ok (.aload_n 0, 1) := by decide +kernel
theorem dX5_piecesBoundBy_13 : decode cX5_piecesBoundBy 13 = .ok (.getfield 46, 3) := by decide +kernel
theorem dX5_piecesBoundBy_16 : decode cX5_piecesBoundBy 16 = .ok (.iload_n 3, 1) := by decide +kernel
theorem dX5_piecesBoundBy_17 : decode cX5_piecesBoundBy 17 = .ok (.invokevirtual 137, 3) := by decide +kernel
theorem dX5_piecesBoundBy_20 : decode cX5_piecesBoundBy 20 = .ok (.iload_n 1, 1) := by decide +kernel
theorem dX5_piecesBoundBy_21 : decode cX5_piecesBoundBy 21 = .ok (.invokestatic 188, 3) := by decide +kernel
theorem dX5_piecesBoundBy_24 : decode cX5_piecesBoundBy 24 = .ok (.ifCond .eq 6, 3) := by decide +kernel
theorem dX5_piecesBoundBy_27 : decode cX5_piecesBoundBy 27 = .ok (.iinc 2 1, 3) := by decide +kernel
theorem dX5_piecesBoundBy_30 : decode cX5_piecesBoundBy 30 = .ok (.iinc 3 1, 3) := by decide +kernel
theorem dX5_piecesBoundBy_33 : decode cX5_piecesBoundBy 33 = .ok (.goto (-29), 3) := by decide +kernel
theorem dX5_piecesBoundBy_36 : decode cX5_piecesBoundBy 36 = .ok (.iload_n 2, 1) := by decide +kernel
theorem dX5_piecesBoundBy_37 : decode cX5_piecesBoundBy 37 = .ok (.ireturn, 1) := by decide +kernel
theorem dX5_projectsThatAre_0 : decode cX5_projectsThatAre 0 = .ok (.iconst 0, 1) := by decide +kernel
theorem dX5_projectsThatAre_1 : decode cX5_projectsThatAre 1 = .ok (.istore_n 2, 1) := by decide +kernel
theorem dX5_projectsThatAre_2 : decode cX5_projectsThatAre 2 = .ok (.iconst 0, 1) := by decide +kernel
theorem dX5_projectsThatAre_3 : decode cX5_projectsThatAre 3 = .ok (.istore_n 3, 1) := by decide +kernel
theorem dX5_projectsThatAre_4 : decode cX5_projectsThatAre 4 = .ok (.iload_n 3, 1) := by decide +kernel
theorem dX5_projectsThatAre_5 : decode cX5_projectsThatAre 5 = .ok (.aload_n 0, 1) := by decide +kernel
theorem dX5_projectsThatAre_6 : decode cX5_projectsThatAre 6 = .ok (.getfield 60, 3) := by decide +kernel
theorem dX5_projectsThatAre_9 : decode cX5_projectsThatAre 9 = .ok (.if_icmp .ge 25, 3) := by decide +kernel
theorem dX5_projectsThatAre_12 : decode cX5_projectsThatAre 12 = .ok (.aload_n 0, 1) := by decide +kernel
theorem dX5_projectsThatAre_13 : decode cX5_projectsThatAre 13 = .ok (.getfield 39, 3) := by decide +kernel
theorem dX5_projectsThatAre_16 : decode cX5_projectsThatAre 16 = .ok (.iload_n 3, 1) := by decide +kernel
theorem dX5_projectsThatAre_17 : decode cX5_projectsThatAre 17 = .ok (.aaload, 1) := by decide +kernel
theorem dX5_projectsThatAre_18 : decode cX5_projectsThatAre 18 = .ok (.getfield 242, 3) := by decide +kernel
theorem dX5_projectsThatAre_21 : decode cX5_projectsThatAre 21 = .ok (.iload_n 1, 1) := by decide +kernel
theorem dX5_projectsThatAre_22 : decode cX5_projectsThatAre 22 = .ok (.if_icmp .ne 6, 3) := by decide +kernel
theorem dX5_projectsThatAre_25 : decode cX5_projectsThatAre 25 = .ok (.iinc 2 1, 3) := by decide +kernel
theorem dX5_projectsThatAre_28 : decode cX5_projectsThatAre 28 = .ok (.iinc 3 1, 3) := by decide +kernel
theorem dX5_projectsThatAre_31 : decode cX5_projectsThatAre 31 = .ok (.goto (-27), 3) := by decide +kernel
theorem dX5_projectsThatAre_34 : decode cX5_projectsThatAre 34 = .ok (.iload_n 2, 1) := by decide +kernel
theorem dX5_projectsThatAre_35 : decode cX5_projectsThatAre 35 = .ok (.ireturn, 1) := by decide +kernel
theorem dX5_nodesOfAll_0 : decode cX5_nodesOfAll 0 = .ok (.iconst 0, 1) := by decide +kernel
theorem dX5_nodesOfAll_1 : decode cX5_nodesOfAll 1 = .ok (.istore_n 1, 1) := by decide +kernel
theorem dX5_nodesOfAll_2 : decode cX5_nodesOfAll 2 = .ok (.iconst 0, 1) := by decide +kernel
theorem dX5_nodesOfAll_3 : decode cX5_nodesOfAll 3 = .ok (.istore_n 2, 1) := by decide +kernel
theorem dX5_nodesOfAll_4 : decode cX5_nodesOfAll 4 = .ok (.iload_n 2, 1) := by decide +kernel
theorem dX5_nodesOfAll_5 : decode cX5_nodesOfAll 5 = .ok (.aload_n 0, 1) := by decide +kernel
theorem dX5_nodesOfAll_6 : decode cX5_nodesOfAll 6 = .ok (.getfield 60, 3) := by decide +kernel
theorem dX5_nodesOfAll_9 : decode cX5_nodesOfAll 9 = .ok (.if_icmp .ge 24, 3) := by decide +kernel
theorem dX5_nodesOfAll_12 : decode cX5_nodesOfAll 12 = .ok (.iload_n 1, 1) := by decide +kernel
theorem dX5_nodesOfAll_13 : decode cX5_nodesOfAll 13 = .ok (.aload_n 0, 1) := by decide +kernel
theorem dX5_nodesOfAll_14 : decode cX5_nodesOfAll 14 = .ok (.getfield 39, 3) := by decide +kernel
theorem dX5_nodesOfAll_17 : decode cX5_nodesOfAll 17 = .ok (.iload_n 2, 1) := by decide +kernel
theorem dX5_nodesOfAll_18 : decode cX5_nodesOfAll 18 = .ok (.aaload, 1) := by decide +kernel
theorem dX5_nodesOfAll_19 : decode cX5_nodesOfAll 19 = .ok (.getfield 256, 3) := by decide +kernel
theorem dX5_nodesOfAll_22 : decode cX5_nodesOfAll 22 = .ok (.invokestatic 227, 3) := by decide +kernel
theorem dX5_nodesOfAll_25 : decode cX5_nodesOfAll 25 = .ok (.iadd, 1) := by decide +kernel
theorem dX5_nodesOfAll_26 : decode cX5_nodesOfAll 26 = .ok (.istore_n 1, 1) := by decide +kernel
theorem dX5_nodesOfAll_27 : decode cX5_nodesOfAll 27 = .ok (.iinc 2 1, 3) := by decide +kernel
theorem dX5_nodesOfAll_30 : decode cX5_nodesOfAll 30 = .ok (.goto (-26), 3) := by decide +kernel
theorem dX5_nodesOfAll_33 : decode cX5_nodesOfAll 33 = .ok (.iload_n 1, 1) := by decide +kernel
theorem dX5_nodesOfAll_34 : decode cX5_nodesOfAll 34 = .ok (.ireturn, 1) := by decide +kernel
theorem dX5_firstPieces_0 : decode cX5_firstPieces 0 = .ok (.iconst 0, 1) := by decide +kernel
theorem dX5_firstPieces_1 : decode cX5_firstPieces 1 = .ok (.istore_n 1, 1) := by decide +kernel
theorem dX5_firstPieces_2 : decode cX5_firstPieces 2 = .ok (.iconst 0, 1) := by decide +kernel
theorem dX5_firstPieces_3 : decode cX5_firstPieces 3 = .ok (.istore_n 2, 1) := by decide +kernel
theorem dX5_firstPieces_4 : decode cX5_firstPieces 4 = .ok (.iload_n 2, 1) := by decide +kernel
theorem dX5_firstPieces_5 : decode cX5_firstPieces 5 = .ok (.aload_n 0, 1) := by decide +kernel
theorem dX5_firstPieces_6 : decode cX5_firstPieces 6 = .ok (.getfield 53, 3) := by decide +kernel
theorem dX5_firstPieces_9 : decode cX5_firstPieces 9 = .ok (.if_icmp .ge 21, 3) := by decide +kernel
theorem dX5_firstPieces_12 : decode cX5_firstPieces 12 = .ok (.aload_n 0, 1) := by decide +kernel
theorem dX5_firstPieces_13 : decode cX5_firstPieces 13 = .ok (.getfield 27, 3) := by decide +kernel
theorem dX5_firstPieces_16 : decode cX5_firstPieces 16 = .ok (.iload_n 2, 1) := by decide +kernel
theorem dX5_firstPieces_17 : decode cX5_firstPieces 17 = .ok (.iaload, 1) := by decide +kernel
theorem dX5_firstPieces_18 : decode cX5_firstPieces 18 = .ok (.ifCond .ne 6, 3) := by decide +kernel
theorem dX5_firstPieces_21 : decode cX5_firstPieces 21 = .ok (.iinc 1 1, 3) := by decide +kernel
theorem dX5_firstPieces_24 : decode cX5_firstPieces 24 = .ok (.iinc 2 1, 3) := by decide +kernel
theorem dX5_firstPieces_27 : decode cX5_firstPieces 27 = .ok (.goto (-23), 3) := by decide +kernel
theorem dX5_firstPieces_30 : decode cX5_firstPieces 30 = .ok (.iload_n 1, 1) := by decide +kernel
theorem dX5_firstPieces_31 : decode cX5_firstPieces 31 = .ok (.ireturn, 1) := by decide +kernel
theorem dJ6_bitCount_0f7a4_0 : decode cJ6_bitCount_0f7a4 0 = .ok (.iload_n 0, 1) := by decide +kernel
theorem dJ6_bitCount_0f7a4_1 : decode cJ6_bitCount_0f7a4 1 = .ok (.iload_n 0, 1) := by decide +kernel
theorem dJ6_bitCount_0f7a4_2 : decode cJ6_bitCount_0f7a4 2 = .ok (.iconst 1, 1) := by decide +kernel
theorem dJ6_bitCount_0f7a4_3 : decode cJ6_bitCount_0f7a4 3 = .ok (.iushr, 1) := by decide +kernel
theorem dJ6_bitCount_0f7a4_4 : decode cJ6_bitCount_0f7a4 4 = .ok (.ldc_w 265, 3) := by decide +kernel
theorem dJ6_bitCount_0f7a4_7 : decode cJ6_bitCount_0f7a4 7 = .ok (.iand, 1) := by decide +kernel
theorem dJ6_bitCount_0f7a4_8 : decode cJ6_bitCount_0f7a4 8 = .ok (.isub, 1) := by decide +kernel
theorem dJ6_bitCount_0f7a4_9 : decode cJ6_bitCount_0f7a4 9 = .ok (.istore_n 0, 1) := by decide +kernel
theorem dJ6_bitCount_0f7a4_10 : decode cJ6_bitCount_0f7a4 10 = .ok (.iload_n 0, 1) := by decide +kernel
theorem dJ6_bitCount_0f7a4_11 : decode cJ6_bitCount_0f7a4 11 = .ok (.ldc_w 266, 3) := by decide +kernel
theorem dJ6_bitCount_0f7a4_14 : decode cJ6_bitCount_0f7a4 14 = .ok (.iand, 1) := by decide +kernel
theorem dJ6_bitCount_0f7a4_15 : decode cJ6_bitCount_0f7a4 15 = .ok (.iload_n 0, 1) := by decide +kernel
theorem dJ6_bitCount_0f7a4_16 : decode cJ6_bitCount_0f7a4 16 = .ok (.iconst 2, 1) := by decide +kernel
theorem dJ6_bitCount_0f7a4_17 : decode cJ6_bitCount_0f7a4 17 = .ok (.iushr, 1) := by decide +kernel
theorem dJ6_bitCount_0f7a4_18 : decode cJ6_bitCount_0f7a4 18 = .ok (.ldc_w 266, 3) := by decide +kernel
theorem dJ6_bitCount_0f7a4_21 : decode cJ6_bitCount_0f7a4 21 = .ok (.iand, 1) := by decide +kernel
theorem dJ6_bitCount_0f7a4_22 : decode cJ6_bitCount_0f7a4 22 = .ok (.iadd, 1) := by decide +kernel
theorem dJ6_bitCount_0f7a4_23 : decode cJ6_bitCount_0f7a4 23 = .ok (.istore_n 0, 1) := by decide +kernel
theorem dJ6_bitCount_0f7a4_24 : decode cJ6_bitCount_0f7a4 24 = .ok (.iload_n 0, 1) := by decide +kernel
theorem dJ6_bitCount_0f7a4_25 : decode cJ6_bitCount_0f7a4 25 = .ok (.iload_n 0, 1) := by decide +kernel
theorem dJ6_bitCount_0f7a4_26 : decode cJ6_bitCount_0f7a4 26 = .ok (.iconst 4, 1) := by decide +kernel
theorem dJ6_bitCount_0f7a4_27 : decode cJ6_bitCount_0f7a4 27 = .ok (.iushr, 1) := by decide +kernel
theorem dJ6_bitCount_0f7a4_28 : decode cJ6_bitCount_0f7a4 28 = .ok (.iadd, 1) := by decide +kernel
theorem dJ6_bitCount_0f7a4_29 : decode cJ6_bitCount_0f7a4 29 = .ok (.ldc_w 267, 3) := by decide +kernel
theorem dJ6_bitCount_0f7a4_32 : decode cJ6_bitCount_0f7a4 32 = .ok (.iand, 1) := by decide +kernel
theorem dJ6_bitCount_0f7a4_33 : decode cJ6_bitCount_0f7a4 33 = .ok (.istore_n 0, 1) := by decide +kernel
theorem dJ6_bitCount_0f7a4_34 : decode cJ6_bitCount_0f7a4 34 = .ok (.iload_n 0, 1) := by decide +kernel
theorem dJ6_bitCount_0f7a4_35 : decode cJ6_bitCount_0f7a4 35 = .ok (.iload_n 0, 1) := by decide +kernel
theorem dJ6_bitCount_0f7a4_36 : decode cJ6_bitCount_0f7a4 36 = .ok (.bipush 8, 2) := by decide +kernel
theorem dJ6_bitCount_0f7a4_38 : decode cJ6_bitCount_0f7a4 38 = .ok (.iushr, 1) := by decide +kernel
theorem dJ6_bitCount_0f7a4_39 : decode cJ6_bitCount_0f7a4 39 = .ok (.iadd, 1) := by decide +kernel
theorem dJ6_bitCount_0f7a4_40 : decode cJ6_bitCount_0f7a4 40 = .ok (.istore_n 0, 1) := by decide +kernel
theorem dJ6_bitCount_0f7a4_41 : decode cJ6_bitCount_0f7a4 41 = .ok (.iload_n 0, 1) := by decide +kernel
theorem dJ6_bitCount_0f7a4_42 : decode cJ6_bitCount_0f7a4 42 = .ok (.iload_n 0, 1) := by decide +kernel
theorem dJ6_bitCount_0f7a4_43 : decode cJ6_bitCount_0f7a4 43 = .ok (.bipush 16, 2) := by decide +kernel
theorem dJ6_bitCount_0f7a4_45 : decode cJ6_bitCount_0f7a4 45 = .ok (.iushr, 1) := by decide +kernel
theorem dJ6_bitCount_0f7a4_46 : decode cJ6_bitCount_0f7a4 46 = .ok (.iadd, 1) := by decide +kernel
theorem dJ6_bitCount_0f7a4_47 : decode cJ6_bitCount_0f7a4 47 = .ok (.istore_n 0, 1) := by decide +kernel
theorem dJ6_bitCount_0f7a4_48 : decode cJ6_bitCount_0f7a4 48 = .ok (.iload_n 0, 1) := by decide +kernel
theorem dJ6_bitCount_0f7a4_49 : decode cJ6_bitCount_0f7a4 49 = .ok (.bipush 63, 2) := by decide +kernel
theorem dJ6_bitCount_0f7a4_51 : decode cJ6_bitCount_0f7a4 51 = .ok (.iand, 1) := by decide +kernel
theorem dJ6_bitCount_0f7a4_52 : decode cJ6_bitCount_0f7a4 52 = .ok (.ireturn, 1) := by decide +kernel
theorem dJ9_min_7cf53_0 : decode cJ9_min_7cf53 0 = .ok (.iload_n 0, 1) := by decide +kernel
theorem dJ9_min_7cf53_1 : decode cJ9_min_7cf53 1 = .ok (.iload_n 1, 1) := by decide +kernel
theorem dJ9_min_7cf53_2 : decode cJ9_min_7cf53 2 = .ok (.if_icmp .gt 7, 3) := by decide +kernel
theorem dJ9_min_7cf53_5 : decode cJ9_min_7cf53 5 = .ok (.iload_n 0, 1) := by decide +kernel
theorem dJ9_min_7cf53_6 : decode cJ9_min_7cf53 6 = .ok (.goto 4, 3) := by decide +kernel
theorem dJ9_min_7cf53_9 : decode cJ9_min_7cf53 9 = .ok (.iload_n 1, 1) := by decide +kernel
theorem dJ9_min_7cf53_10 : decode cJ9_min_7cf53 10 = .ok (.ireturn, 1) := by decide +kernel
theorem dL_below_0 : decode cL_below 0 = .ok (.iload_n 0, 1) := by decide +kernel
theorem dL_below_1 : decode cL_below 1 = .ok (.ldc 7, 2) := by decide +kernel
theorem dL_below_3 : decode cL_below 3 = .ok (.iand, 1) := by decide +kernel
theorem dL_below_4 : decode cL_below 4 = .ok (.iload_n 1, 1) := by decide +kernel
theorem dL_below_5 : decode cL_below 5 = .ok (.irem, 1) := by decide +kernel
theorem dL_below_6 : decode cL_below 6 = .ok (.ireturn, 1) := by decide +kernel
theorem dL_cell_0 : decode cL_cell 0 = .ok (.iload_n 1, 1) := by decide +kernel
theorem dL_cell_1 : decode cL_cell 1 = .ok (.aload_n 0, 1) := by decide +kernel
theorem dL_cell_2 : decode cL_cell 2 = .ok (.arraylength, 1) := by decide +kernel
theorem dL_cell_3 : decode cL_cell 3 = .ok (.if_icmp .ge 9, 3) := by decide +kernel
theorem dL_cell_6 : decode cL_cell 6 = .ok (.aload_n 0, 1) := by decide +kernel
theorem dL_cell_7 : decode cL_cell 7 = .ok (.iload_n 1, 1) := by decide +kernel
theorem dL_cell_8 : decode cL_cell 8 = .ok (.iaload, 1) := by decide +kernel
theorem dL_cell_9 : decode cL_cell 9 = .ok (.goto 9, 3) := by decide +kernel
theorem dL_cell_12 : decode cL_cell 12 = .ok (.ldc 8, 2) := by decide +kernel
theorem dL_cell_14 : decode cL_cell 14 = .ok (.iload_n 1, 1) := by decide +kernel
theorem dL_cell_15 : decode cL_cell 15 = .ok (.iconst 3, 1) := by decide +kernel
theorem dL_cell_16 : decode cL_cell 16 = .ok (.iadd, 1) := by decide +kernel
theorem dL_cell_17 : decode cL_cell 17 = .ok (.imul, 1) := by decide +kernel
theorem dL_cell_18 : decode cL_cell 18 = .ok (.ireturn, 1) := by decide +kernel
theorem dL_law_0 : decode cL_law 0 = .ok (.new 9, 3) := by decide +kernel
theorem dL_law_3 : decode cL_law 3 = .ok (.dup, 1) := by decide +kernel
theorem dL_law_4 : decode cL_law 4 = .ok (.invokespecial 11, 3) := by decide +kernel
theorem dL_law_7 : decode cL_law 7 = .ok (.astore_n 1, 1) := by decide +kernel
theorem dL_law_8 : decode cL_law 8 = .ok (.iconst 0, 1) := by decide +kernel
theorem dL_law_9 : decode cL_law 9 = .ok (.istore_n 2, 1) := by decide +kernel
theorem dL_law_10 : decode cL_law 10 = .ok (.iload_n 2, 1) := by decide +kernel
theorem dL_law_11 : decode cL_law 11 = .ok (.iconst 4, 1) := by decide +kernel
theorem dL_law_12 : decode cL_law 12 = .ok (.if_icmp .ge 102, 3) := by decide +kernel
theorem dL_law_15 : decode cL_law 15 = .ok (.aload_n 1, 1) := by decide +kernel
theorem dL_law_16 : decode cL_law 16 = .ok (.aload_n 0, 1) := by decide +kernel
theorem dL_law_17 : decode cL_law 17 = .ok (.iload_n 2, 1) := by decide +kernel
theorem dL_law_18 : decode cL_law 18 = .ok (.invokestatic 12, 3) := by decide +kernel
theorem dL_law_21 : decode cL_law 21 = .ok (.bipush 32, 2) := by decide +kernel
theorem dL_law_23 : decode cL_law 23 = .ok (.invokestatic 18, 3) := by decide +kernel
theorem dL_law_26 : decode cL_law 26 = .ok (.aload_n 0, 1) := by decide +kernel
theorem dL_law_27 : decode cL_law 27 = .ok (.iload_n 2, 1) := by decide +kernel
theorem dL_law_28 : decode cL_law 28 = .ok (.iconst 1, 1) := by decide +kernel
theorem dL_law_29 : decode cL_law 29 = .ok (.iadd, 1) := by decide +kernel
theorem dL_law_30 : decode cL_law 30 = .ok (.invokestatic 12, 3) := by decide +kernel
theorem dL_law_33 : decode cL_law 33 = .ok (.iconst 3, 1) := by decide +kernel
theorem dL_law_34 : decode cL_law 34 = .ok (.ishr, 1) := by decide +kernel
theorem dL_law_35 : decode cL_law 35 = .ok (.bipush 32, 2) := by decide +kernel
theorem dL_law_37 : decode cL_law 37 = .ok (.invokestatic 18, 3) := by decide +kernel
theorem dL_law_40 : decode cL_law 40 = .ok (.iand, 1) := by decide +kernel
theorem dL_law_41 : decode cL_law 41 = .ok (.aload_n 0, 1) := by decide +kernel
theorem dL_law_42 : decode cL_law 42 = .ok (.iload_n 2, 1) := by decide +kernel
theorem dL_law_43 : decode cL_law 43 = .ok (.invokestatic 12, 3) := by decide +kernel
theorem dL_law_46 : decode cL_law 46 = .ok (.iconst 5, 1) := by decide +kernel
theorem dL_law_47 : decode cL_law 47 = .ok (.ishr, 1) := by decide +kernel
theorem dL_law_48 : decode cL_law 48 = .ok (.bipush 32, 2) := by decide +kernel
theorem dL_law_50 : decode cL_law 50 = .ok (.invokestatic 18, 3) := by decide +kernel
theorem dL_law_53 : decode cL_law 53 = .ok (.aload_n 0, 1) := by decide +kernel
theorem dL_law_54 : decode cL_law 54 = .ok (.iload_n 2, 1) := by decide +kernel
theorem dL_law_55 : decode cL_law 55 = .ok (.iconst 2, 1) := by decide +kernel
theorem dL_law_56 : decode cL_law 56 = .ok (.iadd, 1) := by decide +kernel
theorem dL_law_57 : decode cL_law 57 = .ok (.invokestatic 12, 3) := by decide +kernel
theorem dL_law_60 : decode cL_law 60 = .ok (.iconst 2, 1) := by decide +kernel
theorem dL_law_61 : decode cL_law 61 = .ok (.ishr, 1) := by decide +kernel
theorem dL_law_62 : decode cL_law 62 = .ok (.bipush 32, 2) := by decide +kernel
theorem dL_law_64 : decode cL_law 64 = .ok (.invokestatic 18, 3) := by decide +kernel
theorem dL_law_67 : decode cL_law 67 = .ok (.iand, 1) := by decide +kernel
theorem dL_law_68 : decode cL_law 68 = .ok (.aload_n 0, 1) := by decide +kernel
theorem dL_law_69 : decode cL_law 69 = .ok (.iload_n 2, 1) := by decide +kernel
theorem dL_law_70 : decode cL_law 70 = .ok (.invokestatic 12, 3) := by decide +kernel
theorem dL_law_73 : decode cL_law 73 = .ok (.iconst 4, 1) := by decide +kernel
theorem dL_law_74 : decode cL_law 74 = .ok (.ishr, 1) := by decide +kernel
theorem dL_law_75 : decode cL_law 75 = .ok (.iconst 3, 1) := by decide +kernel
theorem dL_law_76 : decode cL_law 76 = .ok (.invokestatic 18, 3) := by decide +kernel
theorem dL_law_79 : decode cL_law 79 = .ok (.ifCond .ne 7, 3) := by decide +kernel
theorem dL_law_82 : decode cL_law 82 = .ok (.iconst 1, 1) := by decide +kernel
theorem dL_law_83 : decode cL_law 83 = .ok (.goto 4, 3) := by decide +kernel
theorem dL_law_86 : decode cL_law 86 = .ok (.iconst 0, 1) := by decide +kernel
theorem dL_law_87 : decode cL_law 87 = .ok (.aload_n 0, 1) := by decide +kernel
theorem dL_law_88 : decode cL_law 88 = .ok (.iload_n 2, 1) := by decide +kernel
theorem dL_law_89 : decode cL_law 89 = .ok (.invokestatic 12, 3) := by decide +kernel
theorem dL_law_92 : decode cL_law 92 = .ok (.bipush 6, 2) := by decide +kernel
theorem dL_law_94 : decode cL_law 94 = .ok (.ishr, 1) := by decide +kernel
theorem dL_law_95 : decode cL_law 95 = .ok (.iconst 3, 1) := by decide +kernel
theorem dL_law_96 : decode cL_law 96 = .ok (.invokestatic 18, 3) := by decide +kernel
theorem dL_law_99 : decode cL_law 99 = .ok (.invokevirtual 22, 3) := by decide +kernel
theorem dL_law_102 : decode cL_law 102 = .ok (.iload_n 2, 1) := by decide +kernel
theorem dL_law_103 : decode cL_law 103 = .ok (.if_icmp .eq 5, 3) := by decide +kernel
theorem dL_law_106 : decode cL_law 106 = .ok (.iconst 0, 1) := by decide +kernel
theorem dL_law_107 : decode cL_law 107 = .ok (.ireturn, 1) := by decide +kernel
theorem dL_law_108 : decode cL_law 108 = .ok (.iinc 2 1, 3) := by decide +kernel
theorem dL_law_111 : decode cL_law 111 = .ok (.goto (-101), 3) := by decide +kernel
theorem dL_law_114 : decode cL_law 114 = .ok (.aload_n 1, 1) := by decide +kernel
theorem dL_law_115 : decode cL_law 115 = .ok (.invokevirtual 26, 3) := by decide +kernel
theorem dL_law_118 : decode cL_law 118 = .ok (.ifCond .ne 11, 3) := by decide +kernel
theorem dL_law_121 : decode cL_law 121 = .ok (.aload_n 1, 1) := by decide +kernel
theorem dL_law_122 : decode cL_law 122 = .ok (.invokevirtual 26, 3) := by decide +kernel
theorem dL_law_125 : decode cL_law 125 = .ok (.iconst 1, 1) := by decide +kernel
theorem dL_law_126 : decode cL_law 126 = .ok (.if_icmp .eq 5, 3) := by decide +kernel
theorem dL_law_129 : decode cL_law 129 = .ok (.iconst 0, 1) := by decide +kernel
theorem dL_law_130 : decode cL_law 130 = .ok (.ireturn, 1) := by decide +kernel
theorem dL_law_131 : decode cL_law 131 = .ok (.iconst 0, 1) := by decide +kernel
theorem dL_law_132 : decode cL_law 132 = .ok (.istore_n 2, 1) := by decide +kernel
theorem dL_law_133 : decode cL_law 133 = .ok (.iload_n 2, 1) := by decide +kernel
theorem dL_law_134 : decode cL_law 134 = .ok (.bipush 60, 2) := by decide +kernel
theorem dL_law_136 : decode cL_law 136 = .ok (.if_icmp .ge 586, 3) := by decide +kernel
theorem dL_law_139 : decode cL_law 139 = .ok (.aload_n 0, 1) := by decide +kernel
theorem dL_law_140 : decode cL_law 140 = .ok (.iload_n 2, 1) := by decide +kernel
theorem dL_law_141 : decode cL_law 141 = .ok (.bipush 16, 2) := by decide +kernel
theorem dL_law_143 : decode cL_law 143 = .ok (.irem, 1) := by decide +kernel
theorem dL_law_144 : decode cL_law 144 = .ok (.invokestatic 12, 3) := by decide +kernel
theorem dL_law_147 : decode cL_law 147 = .ok (.iload_n 2, 1) := by decide +kernel
theorem dL_law_148 : decode cL_law 148 = .ok (.bipush 16, 2) := by decide +kernel
theorem dL_law_150 : decode cL_law 150 = .ok (.idiv, 1) := by decide +kernel
theorem dL_law_151 : decode cL_law 151 = .ok (.iconst 2, 1) := by decide +kernel
theorem dL_law_152 : decode cL_law 152 = .ok (.imul, 1) := by decide +kernel
theorem dL_law_153 : decode cL_law 153 = .ok (.ishr, 1) := by decide +kernel
theorem dL_law_154 : decode cL_law 154 = .ok (.bipush 7, 2) := by decide +kernel
theorem dL_law_156 : decode cL_law 156 = .ok (.iload_n 2, 1) := by decide +kernel
theorem dL_law_157 : decode cL_law 157 = .ok (.imul, 1) := by decide +kernel
theorem dL_law_158 : decode cL_law 158 = .ok (.iadd, 1) := by decide +kernel
theorem dL_law_159 : decode cL_law 159 = .ok (.istore_n 3, 1) := by decide +kernel
theorem dL_law_160 : decode cL_law 160 = .ok (.aload_n 1, 1) := by decide +kernel
theorem dL_law_161 : decode cL_law 161 = .ok (.iconst 1, 1) := by decide +kernel
theorem dL_law_162 : decode cL_law 162 = .ok (.invokevirtual 30, 3) := by decide +kernel
theorem dL_law_165 : decode cL_law 165 = .ok (.istore 4, 2) := by decide +kernel
theorem dL_law_167 : decode cL_law 167 = .ok (.iload 4, 2) := by decide +kernel
theorem dL_law_169 : decode cL_law 169 = .ok (.ifCond .ne 7, 3) := by decide +kernel
theorem dL_law_172 : decode cL_law 172 = .ok (.iconst (-1), 1) := by decide +kernel
theorem dL_law_173 : decode cL_law 173 = .ok (.goto 11, 3) := by decide +kernel
theorem dL_law_176 : decode cL_law 176 = .ok (.iload_n 3, 1) := by decide +kernel
theorem dL_law_177 : decode cL_law 177 = .ok (.iconst 3, 1) := by decide +kernel
theorem dL_law_178 : decode cL_law 178 = .ok (.ishr, 1) := by decide +kernel
theorem dL_law_179 : decode cL_law 179 = .ok (.iload 4, 2) := by decide +kernel
theorem dL_law_181 : decode cL_law 181 = .ok (.invokestatic 18, 3) := by decide +kernel
theorem dL_law_184 : decode cL_law 184 = .ok (.istore 5, 2) := by decide +kernel
theorem dL_law_186 : decode cL_law 186 = .ok (.iload_n 3, 1) := by decide +kernel
theorem dL_law_187 : decode cL_law 187 = .ok (.iconst 2, 1) := by decide +kernel
theorem dL_law_188 : decode cL_law 188 = .ok (.ishr, 1) := by decide +kernel
theorem dL_law_189 : decode cL_law 189 = .ok (.iconst 2, 1) := by decide +kernel
theorem dL_law_190 : decode cL_law 190 = .ok (.invokestatic 18, 3) := by decide +kernel
theorem dL_law_193 : decode cL_law 193 = .ok (.istore 6, 2) := by decide +kernel
theorem dL_law_195 : decode cL_law 195 = .ok (.iload_n 3, 1) := by decide +kernel
theorem dL_law_196 : decode cL_law 196 = .ok (.bipush 6, 2) := by decide +kernel
theorem dL_law_198 : decode cL_law 198 = .ok (.ishr, 1) := by decide +kernel
theorem dL_law_199 : decode cL_law 199 = .ok (.iconst 4, 1) := by decide +kernel
theorem dL_law_200 : decode cL_law 200 = .ok (.invokestatic 18, 3) := by decide +kernel
theorem dL_law_203 : decode cL_law 203 = .ok (.istore 7, 2) := by decide +kernel
theorem dL_law_205 : decode cL_law 205 = .ok (.iload 4, 2) := by decide +kernel
theorem dL_law_207 : decode cL_law 207 = .ok (.iconst 3, 1) := by decide +kernel
theorem dL_law_208 : decode cL_law 208 = .ok (.if_icmp .ge 7, 3) := by decide +kernel
theorem dL_law_211 : decode cL_law 211 = .ok (.iconst 0, 1) := by decide +kernel
theorem dL_law_212 : decode cL_law 212 = .ok (.goto 9, 3) := by decide +kernel
theorem dL_law_215 : decode cL_law 215 = .ok (.iload_n 3, 1) := by decide +kernel
theorem dL_law_216 : decode cL_law 216 = .ok (.bipush 8, 2) := by decide +kernel
theorem dL_law_218 : decode cL_law 218 = .ok (.invokestatic 18, 3) := by decide +kernel
theorem dL_law_221 : decode cL_law 221 = .ok (.tableswitch 438 0 6 #[43, 43, 76, 155, 230, 302, 366], 43) := by decide +kernel
theorem dL_law_264 : decode cL_law 264 = .ok (.iload 4, 2) := by decide +kernel
theorem dL_law_266 : decode cL_law 266 = .ok (.bipush 16, 2) := by decide +kernel
theorem dL_law_268 : decode cL_law 268 = .ok (.if_icmp .ne 6, 3) := by decide +kernel
theorem dL_law_271 : decode cL_law 271 = .ok (.goto 399, 3) := by decide +kernel
theorem dL_law_274 : decode cL_law 274 = .ok (.aload_n 1, 1) := by decide +kernel
theorem dL_law_275 : decode cL_law 275 = .ok (.iload 5, 2) := by decide +kernel
theorem dL_law_277 : decode cL_law 277 = .ok (.iload_n 3, 1) := by decide +kernel
theorem dL_law_278 : decode cL_law 278 = .ok (.iconst 3, 1) := by decide +kernel
theorem dL_law_279 : decode cL_law 279 = .ok (.ishr, 1) := by decide +kernel
theorem dL_law_280 : decode cL_law 280 = .ok (.invokestatic 34, 3) := by decide +kernel
theorem dL_law_283 : decode cL_law 283 = .ok (.ifCond .eq 12, 3) := by decide +kernel
theorem dL_law_286 : decode cL_law 286 = .ok (.aload_n 1, 1) := by decide +kernel
theorem dL_law_287 : decode cL_law 287 = .ok (.invokevirtual 38, 3) := by decide +kernel
theorem dL_law_290 : decode cL_law 290 = .ok (.iload 4, 2) := by decide +kernel
theorem dL_law_292 : decode cL_law 292 = .ok (.if_icmp .eq 378, 3) := by decide +kernel
theorem dL_law_295 : decode cL_law 295 = .ok (.iconst 0, 1) := by decide +kernel
theorem dL_law_296 : decode cL_law 296 = .ok (.ireturn, 1) := by decide +kernel
theorem dL_law_297 : decode cL_law 297 = .ok (.aload_n 1, 1) := by decide +kernel
theorem dL_law_298 : decode cL_law 298 = .ok (.iload 5, 2) := by decide +kernel
theorem dL_law_300 : decode cL_law 300 = .ok (.iload 7, 2) := by decide +kernel
theorem dL_law_302 : decode cL_law 302 = .ok (.invokevirtual 41, 3) := by decide +kernel
theorem dL_law_305 : decode cL_law 305 = .ok (.istore 8, 2) := by decide +kernel
theorem dL_law_307 : decode cL_law 307 = .ok (.aload_n 1, 1) := by decide +kernel
theorem dL_law_308 : decode cL_law 308 = .ok (.iconst 0, 1) := by decide +kernel
theorem dL_law_309 : decode cL_law 309 = .ok (.iconst 5, 1) := by decide +kernel
theorem dL_law_310 : decode cL_law 310 = .ok (.invokevirtual 44, 3) := by decide +kernel
theorem dL_law_313 : decode cL_law 313 = .ok (.aload_n 1, 1) := by decide +kernel
theorem dL_law_314 : decode cL_law 314 = .ok (.iconst 1, 1) := by decide +kernel
theorem dL_law_315 : decode cL_law 315 = .ok (.iconst 5, 1) := by decide +kernel
theorem dL_law_316 : decode cL_law 316 = .ok (.invokevirtual 44, 3) := by decide +kernel
theorem dL_law_319 : decode cL_law 319 = .ok (.iadd, 1) := by decide +kernel
theorem dL_law_320 : decode cL_law 320 = .ok (.istore 9, 2) := by decide +kernel
theorem dL_law_322 : decode cL_law 322 = .ok (.aload_n 1, 1) := by decide +kernel
theorem dL_law_323 : decode cL_law 323 = .ok (.iload 5, 2) := by decide +kernel
theorem dL_law_325 : decode cL_law 325 = .ok (.iload 7, 2) := by decide +kernel
theorem dL_law_327 : decode cL_law 327 = .ok (.invokevirtual 47, 3) := by decide +kernel
theorem dL_law_330 : decode cL_law 330 = .ok (.iload 8, 2) := by decide +kernel
theorem dL_law_332 : decode cL_law 332 = .ok (.invokestatic 50, 3) := by decide +kernel
theorem dL_law_335 : decode cL_law 335 = .ok (.if_icmp .ne 39, 3) := by decide +kernel
theorem dL_law_338 : decode cL_law 338 = .ok (.aload_n 1, 1) := by decide +kernel
theorem dL_law_339 : decode cL_law 339 = .ok (.iconst 0, 1) := by decide +kernel
theorem dL_law_340 : decode cL_law 340 = .ok (.iconst 5, 1) := by decide +kernel
theorem dL_law_341 : decode cL_law 341 = .ok (.invokevirtual 44, 3) := by decide +kernel
theorem dL_law_344 : decode cL_law 344 = .ok (.aload_n 1, 1) := by decide +kernel
theorem dL_law_345 : decode cL_law 345 = .ok (.iconst 1, 1) := by decide +kernel
theorem dL_law_346 : decode cL_law 346 = .ok (.iconst 5, 1) := by decide +kernel
theorem dL_law_347 : decode cL_law 347 = .ok (.invokevirtual 44, 3) := by decide +kernel
theorem dL_law_350 : decode cL_law 350 = .ok (.iadd, 1) := by decide +kernel
theorem dL_law_351 : decode cL_law 351 = .ok (.iload 9, 2) := by decide +kernel
theorem dL_law_353 : decode cL_law 353 = .ok (.iload 8, 2) := by decide +kernel
theorem dL_law_355 : decode cL_law 355 = .ok (.invokestatic 50, 3) := by decide +kernel
theorem dL_law_358 : decode cL_law 358 = .ok (.iadd, 1) := by decide +kernel
theorem dL_law_359 : decode cL_law 359 = .ok (.if_icmp .ne 15, 3) := by decide +kernel
theorem dL_law_362 : decode cL_law 362 = .ok (.aload_n 1, 1) := by decide +kernel
theorem dL_law_363 : decode cL_law 363 = .ok (.iload 5, 2) := by decide +kernel
theorem dL_law_365 : decode cL_law 365 = .ok (.iconst 2, 1) := by decide +kernel
theorem dL_law_366 : decode cL_law 366 = .ok (.invokevirtual 55, 3) := by decide +kernel
theorem dL_law_369 : decode cL_law 369 = .ok (.iload 7, 2) := by decide +kernel
theorem dL_law_371 : decode cL_law 371 = .ok (.if_icmp .eq 299, 3) := by decide +kernel
theorem dL_law_374 : decode cL_law 374 = .ok (.iconst 0, 1) := by decide +kernel
theorem dL_law_375 : decode cL_law 375 = .ok (.ireturn, 1) := by decide +kernel
theorem dL_law_376 : decode cL_law 376 = .ok (.aload_n 1, 1) := by decide +kernel
theorem dL_law_377 : decode cL_law 377 = .ok (.iload 5, 2) := by decide +kernel
theorem dL_law_379 : decode cL_law 379 = .ok (.iconst 3, 1) := by decide +kernel
theorem dL_law_380 : decode cL_law 380 = .ok (.invokevirtual 55, 3) := by decide +kernel
theorem dL_law_383 : decode cL_law 383 = .ok (.istore 10, 2) := by decide +kernel
theorem dL_law_385 : decode cL_law 385 = .ok (.iload 10, 2) := by decide +kernel
theorem dL_law_387 : decode cL_law 387 = .ok (.iload 7, 2) := by decide +kernel
theorem dL_law_389 : decode cL_law 389 = .ok (.ishr, 1) := by decide +kernel
theorem dL_law_390 : decode cL_law 390 = .ok (.iconst 1, 1) := by decide +kernel
theorem dL_law_391 : decode cL_law 391 = .ok (.iand, 1) := by decide +kernel
theorem dL_law_392 : decode cL_law 392 = .ok (.ifCond .ne 6, 3) := by decide +kernel
theorem dL_law_395 : decode cL_law 395 = .ok (.goto 275, 3) := by decide +kernel
theorem dL_law_398 : decode cL_law 398 = .ok (.aload_n 1, 1) := by decide +kernel
theorem dL_law_399 : decode cL_law 399 = .ok (.iload 7, 2) := by decide +kernel
theorem dL_law_401 : decode cL_law 401 = .ok (.iconst 3, 1) := by decide +kernel
theorem dL_law_402 : decode cL_law 402 = .ok (.invokevirtual 58, 3) := by decide +kernel
theorem dL_law_405 : decode cL_law 405 = .ok (.istore 11, 2) := by decide +kernel
theorem dL_law_407 : decode cL_law 407 = .ok (.aload_n 1, 1) := by decide +kernel
theorem dL_law_408 : decode cL_law 408 = .ok (.iload 5, 2) := by decide +kernel
theorem dL_law_410 : decode cL_law 410 = .ok (.iload 7, 2) := by decide +kernel
theorem dL_law_412 : decode cL_law 412 = .ok (.invokevirtual 61, 3) := by decide +kernel
theorem dL_law_415 : decode cL_law 415 = .ok (.iload 11, 2) := by decide +kernel
theorem dL_law_417 : decode cL_law 417 = .ok (.ifCond .le 7, 3) := by decide +kernel
theorem dL_law_420 : decode cL_law 420 = .ok (.iconst 1, 1) := by decide +kernel
theorem dL_law_421 : decode cL_law 421 = .ok (.goto 4, 3) := by decide +kernel
theorem dL_law_424 : decode cL_law 424 = .ok (.iconst 0, 1) := by decide +kernel
theorem dL_law_425 : decode cL_law 425 = .ok (.if_icmp .ne 24, 3) := by decide +kernel
theorem dL_law_428 : decode cL_law 428 = .ok (.iload 11, 2) := by decide +kernel
theorem dL_law_430 : decode cL_law 430 = .ok (.ifCond .le 240, 3) := by decide +kernel
theorem dL_law_433 : decode cL_law 433 = .ok (.aload_n 1, 1) := by decide +kernel
theorem dL_law_434 : decode cL_law 434 = .ok (.iload 5, 2) := by decide +kernel
theorem dL_law_436 : decode cL_law 436 = .ok (.iconst 3, 1) := by decide +kernel
theorem dL_law_437 : decode cL_law 437 = .ok (.invokevirtual 55, 3) := by decide +kernel
theorem dL_law_440 : decode cL_law 440 = .ok (.iload 7, 2) := by decide +kernel
theorem dL_law_442 : decode cL_law 442 = .ok (.ishr, 1) := by decide +kernel
theorem dL_law_443 : decode cL_law 443 = .ok (.iconst 1, 1) := by decide +kernel
theorem dL_law_444 : decode cL_law 444 = .ok (.iand, 1) := by decide +kernel
theorem dL_law_445 : decode cL_law 445 = .ok (.iconst 1, 1) := by decide +kernel
theorem dL_law_446 : decode cL_law 446 = .ok (.if_icmp .ne 224, 3) := by decide +kernel
theorem dL_law_449 : decode cL_law 449 = .ok (.iconst 0, 1) := by decide +kernel
theorem dL_law_450 : decode cL_law 450 = .ok (.ireturn, 1) := by decide +kernel
theorem dL_law_451 : decode cL_law 451 = .ok (.aload_n 1, 1) := by decide +kernel
theorem dL_law_452 : decode cL_law 452 = .ok (.iload 6, 2) := by decide +kernel
theorem dL_law_454 : decode cL_law 454 = .ok (.iconst 1, 1) := by decide +kernel
theorem dL_law_455 : decode cL_law 455 = .ok (.invokevirtual 44, 3) := by decide +kernel
theorem dL_law_458 : decode cL_law 458 = .ok (.istore 12, 2) := by decide +kernel
theorem dL_law_460 : decode cL_law 460 = .ok (.iload_n 3, 1) := by decide +kernel
theorem dL_law_461 : decode cL_law 461 = .ok (.iconst 4, 1) := by decide +kernel
theorem dL_law_462 : decode cL_law 462 = .ok (.ishr, 1) := by decide +kernel
theorem dL_law_463 : decode cL_law 463 = .ok (.bipush 10, 2) := by decide +kernel
theorem dL_law_465 : decode cL_law 465 = .ok (.invokestatic 18, 3) := by decide +kernel
theorem dL_law_468 : decode cL_law 468 = .ok (.istore 13, 2) := by decide +kernel
theorem dL_law_470 : decode cL_law 470 = .ok (.iload 12, 2) := by decide +kernel
theorem dL_law_472 : decode cL_law 472 = .ok (.bipush 10, 2) := by decide +kernel
theorem dL_law_474 : decode cL_law 474 = .ok (.if_icmp .ge 196, 3) := by decide +kernel
theorem dL_law_477 : decode cL_law 477 = .ok (.aload_n 1, 1) := by decide +kernel
theorem dL_law_478 : decode cL_law 478 = .ok (.iload 6, 2) := by decide +kernel
theorem dL_law_480 : decode cL_law 480 = .ok (.bipush 6, 2) := by decide +kernel
theorem dL_law_482 : decode cL_law 482 = .ok (.invokevirtual 44, 3) := by decide +kernel
theorem dL_law_485 : decode cL_law 485 = .ok (.iload 13, 2) := by decide +kernel
theorem dL_law_487 : decode cL_law 487 = .ok (.ishr, 1) := by decide +kernel
theorem dL_law_488 : decode cL_law 488 = .ok (.iconst 1, 1) := by decide +kernel
theorem dL_law_489 : decode cL_law 489 = .ok (.iand, 1) := by decide +kernel
theorem dL_law_490 : decode cL_law 490 = .ok (.iconst 1, 1) := by decide +kernel
theorem dL_law_491 : decode cL_law 491 = .ok (.if_icmp .ne 179, 3) := by decide +kernel
theorem dL_law_494 : decode cL_law 494 = .ok (.aload_n 1, 1) := by decide +kernel
theorem dL_law_495 : decode cL_law 495 = .ok (.iload 6, 2) := by decide +kernel
theorem dL_law_497 : decode cL_law 497 = .ok (.iload 13, 2) := by decide +kernel
theorem dL_law_499 : decode cL_law 499 = .ok (.iload 5, 2) := by decide +kernel
theorem dL_law_501 : decode cL_law 501 = .ok (.invokevirtual 65, 3) := by decide +kernel
theorem dL_law_504 : decode cL_law 504 = .ok (.ifCond .lt 17, 3) := by decide +kernel
theorem dL_law_507 : decode cL_law 507 = .ok (.aload_n 1, 1) := by decide +kernel
theorem dL_law_508 : decode cL_law 508 = .ok (.iload 6, 2) := by decide +kernel
theorem dL_law_510 : decode cL_law 510 = .ok (.iconst 1, 1) := by decide +kernel
theorem dL_law_511 : decode cL_law 511 = .ok (.invokevirtual 44, 3) := by decide +kernel
theorem dL_law_514 : decode cL_law 514 = .ok (.iload 12, 2) := by decide +kernel
theorem dL_law_516 : decode cL_law 516 = .ok (.iconst 1, 1) := by decide +kernel
theorem dL_law_517 : decode cL_law 517 = .ok (.iadd, 1) := by decide +kernel
theorem dL_law_518 : decode cL_law 518 = .ok (.if_icmp .eq 152, 3) := by decide +kernel
theorem dL_law_521 : decode cL_law 521 = .ok (.iconst 0, 1) := by decide +kernel
theorem dL_law_522 : decode cL_law 522 = .ok (.ireturn, 1) := by decide +kernel
theorem dL_law_523 : decode cL_law 523 = .ok (.iload_n 3, 1) := by decide +kernel
theorem dL_law_524 : decode cL_law 524 = .ok (.iconst 4, 1) := by decide +kernel
theorem dL_law_525 : decode cL_law 525 = .ok (.ishr, 1) := by decide +kernel
theorem dL_law_526 : decode cL_law 526 = .ok (.iconst 5, 1) := by decide +kernel
theorem dL_law_527 : decode cL_law 527 = .ok (.invokestatic 18, 3) := by decide +kernel
theorem dL_law_530 : decode cL_law 530 = .ok (.istore 14, 2) := by decide +kernel
theorem dL_law_532 : decode cL_law 532 = .ok (.aload_n 1, 1) := by decide +kernel
theorem dL_law_533 : decode cL_law 533 = .ok (.iload 6, 2) := by decide +kernel
theorem dL_law_535 : decode cL_law 535 = .ok (.iconst 4, 1) := by decide +kernel
theorem dL_law_536 : decode cL_law 536 = .ok (.invokevirtual 44, 3) := by decide +kernel
theorem dL_law_539 : decode cL_law 539 = .ok (.iload 14, 2) := by decide +kernel
theorem dL_law_541 : decode cL_law 541 = .ok (.ishr, 1) := by decide +kernel
theorem dL_law_542 : decode cL_law 542 = .ok (.iconst 1, 1) := by decide +kernel
theorem dL_law_543 : decode cL_law 543 = .ok (.iand, 1) := by decide +kernel
theorem dL_law_544 : decode cL_law 544 = .ok (.iconst 1, 1) := by decide +kernel
theorem dL_law_545 : decode cL_law 545 = .ok (.if_icmp .ne 7, 3) := by decide +kernel
theorem dL_law_548 : decode cL_law 548 = .ok (.iconst 1, 1) := by decide +kernel
theorem dL_law_549 : decode cL_law 549 = .ok (.goto 4, 3) := by decide +kernel
theorem dL_law_552 : decode cL_law 552 = .ok (.iconst 0, 1) := by decide +kernel
theorem dL_law_553 : decode cL_law 553 = .ok (.istore 15, 2) := by decide +kernel
theorem dL_law_555 : decode cL_law 555 = .ok (.aload_n 1, 1) := by decide +kernel
theorem dL_law_556 : decode cL_law 556 = .ok (.iload 6, 2) := by decide +kernel
theorem dL_law_558 : decode cL_law 558 = .ok (.iload 14, 2) := by decide +kernel
theorem dL_law_560 : decode cL_law 560 = .ok (.iconst 1, 1) := by decide +kernel
theorem dL_law_561 : decode cL_law 561 = .ok (.invokevirtual 69, 3) := by decide +kernel
theorem dL_law_564 : decode cL_law 564 = .ok (.iload 15, 2) := by decide +kernel
theorem dL_law_566 : decode cL_law 566 = .ok (.if_icmp .ne 19, 3) := by decide +kernel
theorem dL_law_569 : decode cL_law 569 = .ok (.aload_n 1, 1) := by decide +kernel
theorem dL_law_570 : decode cL_law 570 = .ok (.iload 6, 2) := by decide +kernel
theorem dL_law_572 : decode cL_law 572 = .ok (.iconst 3, 1) := by decide +kernel
theorem dL_law_573 : decode cL_law 573 = .ok (.invokevirtual 44, 3) := by decide +kernel
theorem dL_law_576 : decode cL_law 576 = .ok (.iload 14, 2) := by decide +kernel
theorem dL_law_578 : decode cL_law 578 = .ok (.ishr, 1) := by decide +kernel
theorem dL_law_579 : decode cL_law 579 = .ok (.iconst 1, 1) := by decide +kernel
theorem dL_law_580 : decode cL_law 580 = .ok (.iand, 1) := by decide +kernel
theorem dL_law_581 : decode cL_law 581 = .ok (.iconst 1, 1) := by decide +kernel
theorem dL_law_582 : decode cL_law 582 = .ok (.if_icmp .ne 88, 3) := by decide +kernel
theorem dL_law_585 : decode cL_law 585 = .ok (.iconst 0, 1) := by decide +kernel
theorem dL_law_586 : decode cL_law 586 = .ok (.ireturn, 1) := by decide +kernel
theorem dL_law_587 : decode cL_law 587 = .ok (.aload_n 1, 1) := by decide +kernel
theorem dL_law_588 : decode cL_law 588 = .ok (.iload 6, 2) := by decide +kernel
theorem dL_law_590 : decode cL_law 590 = .ok (.iconst 0, 1) := by decide +kernel
theorem dL_law_591 : decode cL_law 591 = .ok (.invokevirtual 44, 3) := by decide +kernel
theorem dL_law_594 : decode cL_law 594 = .ok (.iconst 1, 1) := by decide +kernel
theorem dL_law_595 : decode cL_law 595 = .ok (.if_icmp .eq 27, 3) := by decide +kernel
theorem dL_law_598 : decode cL_law 598 = .ok (.aload_n 1, 1) := by decide +kernel
theorem dL_law_599 : decode cL_law 599 = .ok (.iload 6, 2) := by decide +kernel
theorem dL_law_601 : decode cL_law 601 = .ok (.iconst 2, 1) := by decide +kernel
theorem dL_law_602 : decode cL_law 602 = .ok (.invokevirtual 44, 3) := by decide +kernel
theorem dL_law_605 : decode cL_law 605 = .ok (.ifCond .ne 17, 3) := by decide +kernel
theorem dL_law_608 : decode cL_law 608 = .ok (.aload_n 1, 1) := by decide +kernel
theorem dL_law_609 : decode cL_law 609 = .ok (.iload 6, 2) := by decide +kernel
theorem dL_law_611 : decode cL_law 611 = .ok (.iconst 3, 1) := by decide +kernel
theorem dL_law_612 : decode cL_law 612 = .ok (.invokevirtual 44, 3) := by decide +kernel
theorem dL_law_615 : decode cL_law 615 = .ok (.ifCond .ne 7, 3) := by decide +kernel
theorem dL_law_618 : decode cL_law 618 = .ok (.iconst 1, 1) := by decide +kernel
theorem dL_law_619 : decode cL_law 619 = .ok (.goto 4, 3) := by decide +kernel
theorem dL_law_622 : decode cL_law 622 = .ok (.iconst 0, 1) := by decide +kernel
theorem dL_law_623 : decode cL_law 623 = .ok (.istore 16, 2) := by decide +kernel
theorem dL_law_625 : decode cL_law 625 = .ok (.iload 16, 2) := by decide +kernel
theorem dL_law_627 : decode cL_law 627 = .ok (.ifCond .eq 43, 3) := by decide +kernel
theorem dL_law_630 : decode cL_law 630 = .ok (.aload_n 1, 1) := by decide +kernel
theorem dL_law_631 : decode cL_law 631 = .ok (.iload 6, 2) := by decide +kernel
theorem dL_law_633 : decode cL_law 633 = .ok (.invokevirtual 73, 3) := by decide +kernel
theorem dL_law_636 : decode cL_law 636 = .ok (.aload_n 1, 1) := by decide +kernel
theorem dL_law_637 : decode cL_law 637 = .ok (.iload 6, 2) := by decide +kernel
theorem dL_law_639 : decode cL_law 639 = .ok (.iconst 5, 1) := by decide +kernel
theorem dL_law_640 : decode cL_law 640 = .ok (.invokevirtual 44, 3) := by decide +kernel
theorem dL_law_643 : decode cL_law 643 = .ok (.if_icmp .ne 14, 3) := by decide +kernel
theorem dL_law_646 : decode cL_law 646 = .ok (.aload_n 1, 1) := by decide +kernel
theorem dL_law_647 : decode cL_law 647 = .ok (.iload 6, 2) := by decide +kernel
theorem dL_law_649 : decode cL_law 649 = .ok (.iconst 0, 1) := by decide +kernel
theorem dL_law_650 : decode cL_law 650 = .ok (.invokevirtual 44, 3) := by decide +kernel
theorem dL_law_653 : decode cL_law 653 = .ok (.iconst 1, 1) := by decide +kernel
theorem dL_law_654 : decode cL_law 654 = .ok (.if_icmp .eq 16, 3) := by decide +kernel
theorem dL_law_657 : decode cL_law 657 = .ok (.iconst 0, 1) := by decide +kernel
theorem dL_law_658 : decode cL_law 658 = .ok (.ireturn, 1) := by decide +kernel
theorem dL_law_659 : decode cL_law 659 = .ok (.aload_n 1, 1) := by decide +kernel
theorem dL_law_660 : decode cL_law 660 = .ok (.iload 6, 2) := by decide +kernel
theorem dL_law_662 : decode cL_law 662 = .ok (.invokestatic 76, 3) := by decide +kernel
theorem dL_law_665 : decode cL_law 665 = .ok (.ifCond .ne 5, 3) := by decide +kernel
theorem dL_law_668 : decode cL_law 668 = .ok (.iconst 0, 1) := by decide +kernel
theorem dL_law_669 : decode cL_law 669 = .ok (.ireturn, 1) := by decide +kernel
theorem dL_law_670 : decode cL_law 670 = .ok (.iconst 0, 1) := by decide +kernel
theorem dL_law_671 : decode cL_law 671 = .ok (.istore 8, 2) := by decide +kernel
theorem dL_law_673 : decode cL_law 673 = .ok (.iload 8, 2) := by decide +kernel
theorem dL_law_675 : decode cL_law 675 = .ok (.iconst 2, 1) := by decide +kernel
theorem dL_law_676 : decode cL_law 676 = .ok (.if_icmp .ge 40, 3) := by decide +kernel
theorem dL_law_679 : decode cL_law 679 = .ok (.aload_n 1, 1) := by decide +kernel
theorem dL_law_680 : decode cL_law 680 = .ok (.iload 8, 2) := by decide +kernel
theorem dL_law_682 : decode cL_law 682 = .ok (.iconst 0, 1) := by decide +kernel
theorem dL_law_683 : decode cL_law 683 = .ok (.invokevirtual 44, 3) := by decide +kernel
theorem dL_law_686 : decode cL_law 686 = .ok (.iconst 1, 1) := by decide +kernel
theorem dL_law_687 : decode cL_law 687 = .ok (.if_icmp .ne 23, 3) := by decide +kernel
theorem dL_law_690 : decode cL_law 690 = .ok (.aload_n 1, 1) := by decide +kernel
theorem dL_law_691 : decode cL_law 691 = .ok (.iload 8, 2) := by decide +kernel
theorem dL_law_693 : decode cL_law 693 = .ok (.iconst 2, 1) := by decide +kernel
theorem dL_law_694 : decode cL_law 694 = .ok (.invokevirtual 44, 3) := by decide +kernel
theorem dL_law_697 : decode cL_law 697 = .ok (.aload_n 1, 1) := by decide +kernel
theorem dL_law_698 : decode cL_law 698 = .ok (.iload 8, 2) := by decide +kernel
theorem dL_law_700 : decode cL_law 700 = .ok (.iconst 3, 1) := by decide +kernel
theorem dL_law_701 : decode cL_law 701 = .ok (.invokevirtual 44, 3) := by decide +kernel
theorem dL_law_704 : decode cL_law 704 = .ok (.iadd, 1) := by decide +kernel
theorem dL_law_705 : decode cL_law 705 = .ok (.ifCond .le 5, 3) := by decide +kernel
theorem dL_law_708 : decode cL_law 708 = .ok (.iconst 0, 1) := by decide +kernel
theorem dL_law_709 : decode cL_law 709 = .ok (.ireturn, 1) := by decide +kernel
theorem dL_law_710 : decode cL_law 710 = .ok (.iinc 8 1, 3) := by decide +kernel
theorem dL_law_713 : decode cL_law 713 = .ok (.goto (-40), 3) := by decide +kernel
theorem dL_law_716 : decode cL_law 716 = .ok (.iinc 2 1, 3) := by decide +kernel
theorem dL_law_719 : decode cL_law 719 = .ok (.goto (-586), 3) := by decide +kernel
theorem dL_law_722 : decode cL_law 722 = .ok (.aload_n 1, 1) := by decide +kernel
theorem dL_law_723 : decode cL_law 723 = .ok (.invokestatic 80, 3) := by decide +kernel
theorem dL_law_726 : decode cL_law 726 = .ok (.ireturn, 1) := by decide +kernel
theorem dL_isWritten_0 : decode cL_isWritten 0 = .ok (.iload_n 1, 1) := by decide +kernel
theorem dL_isWritten_1 : decode cL_isWritten 1 = .ok (.ifCond .lt 79, 3) := by decide +kernel
theorem dL_isWritten_4 : decode cL_isWritten 4 = .ok (.iload_n 2, 1) := by decide +kernel
theorem dL_isWritten_5 : decode cL_isWritten 5 = .ok (.iconst 2, 1) := by decide +kernel
theorem dL_isWritten_6 : decode cL_isWritten 6 = .ok (.invokestatic 18, 3) := by decide +kernel
theorem dL_isWritten_9 : decode cL_isWritten 9 = .ok (.ifCond .ne 71, 3) := by decide +kernel
theorem dL_isWritten_12 : decode cL_isWritten 12 = .ok (.aload_n 0, 1) := by decide +kernel
theorem dL_isWritten_13 : decode cL_isWritten 13 = .ok (.iload_n 1, 1) := by decide +kernel
theorem dL_isWritten_14 : decode cL_isWritten 14 = .ok (.iload_n 2, 1) := by decide +kernel
theorem dL_isWritten_15 : decode cL_isWritten 15 = .ok (.iconst 2, 1) := by decide +kernel
theorem dL_isWritten_16 : decode cL_isWritten 16 = .ok (.ishr, 1) := by decide +kernel
theorem dL_isWritten_17 : decode cL_isWritten 17 = .ok (.bipush 10, 2) := by decide +kernel
theorem dL_isWritten_19 : decode cL_isWritten 19 = .ok (.invokestatic 18, 3) := by decide +kernel
theorem dL_isWritten_22 : decode cL_isWritten 22 = .ok (.invokevirtual 84, 3) := by decide +kernel
theorem dL_isWritten_25 : decode cL_isWritten 25 = .ok (.istore_n 3, 1) := by decide +kernel
theorem dL_isWritten_26 : decode cL_isWritten 26 = .ok (.iload_n 3, 1) := by decide +kernel
theorem dL_isWritten_27 : decode cL_isWritten 27 = .ok (.aload_n 0, 1) := by decide +kernel
theorem dL_isWritten_28 : decode cL_isWritten 28 = .ok (.iload_n 1, 1) := by decide +kernel
theorem dL_isWritten_29 : decode cL_isWritten 29 = .ok (.iconst 0, 1) := by decide +kernel
theorem dL_isWritten_30 : decode cL_isWritten 30 = .ok (.invokevirtual 55, 3) := by decide +kernel
theorem dL_isWritten_33 : decode cL_isWritten 33 = .ok (.if_icmp .ne 13, 3) := by decide +kernel
theorem dL_isWritten_36 : decode cL_isWritten 36 = .ok (.aload_n 0, 1) := by decide +kernel
theorem dL_isWritten_37 : decode cL_isWritten 37 = .ok (.iload_n 1, 1) := by decide +kernel
theorem dL_isWritten_38 : decode cL_isWritten 38 = .ok (.invokevirtual 87, 3) := by decide +kernel
theorem dL_isWritten_41 : decode cL_isWritten 41 = .ok (.bipush 100, 2) := by decide +kernel
theorem dL_isWritten_43 : decode cL_isWritten 43 = .ok (.if_icmp .eq 5, 3) := by decide +kernel
theorem dL_isWritten_46 : decode cL_isWritten 46 = .ok (.iconst 0, 1) := by decide +kernel
theorem dL_isWritten_47 : decode cL_isWritten 47 = .ok (.ireturn, 1) := by decide +kernel
theorem dL_isWritten_48 : decode cL_isWritten 48 = .ok (.iload_n 3, 1) := by decide +kernel
theorem dL_isWritten_49 : decode cL_isWritten 49 = .ok (.bipush 11, 2) := by decide +kernel
theorem dL_isWritten_51 : decode cL_isWritten 51 = .ok (.if_icmp .gt 23, 3) := by decide +kernel
theorem dL_isWritten_54 : decode cL_isWritten 54 = .ok (.aload_n 0, 1) := by decide +kernel
theorem dL_isWritten_55 : decode cL_isWritten 55 = .ok (.bipush 10, 2) := by decide +kernel
theorem dL_isWritten_57 : decode cL_isWritten 57 = .ok (.iload_n 2, 1) := by decide +kernel
theorem dL_isWritten_58 : decode cL_isWritten 58 = .ok (.iconst 4, 1) := by decide +kernel
theorem dL_isWritten_59 : decode cL_isWritten 59 = .ok (.ishr, 1) := by decide +kernel
theorem dL_isWritten_60 : decode cL_isWritten 60 = .ok (.iconst 5, 1) := by decide +kernel
theorem dL_isWritten_61 : decode cL_isWritten 61 = .ok (.invokestatic 18, 3) := by decide +kernel
theorem dL_isWritten_64 : decode cL_isWritten 64 = .ok (.iadd, 1) := by decide +kernel
theorem dL_isWritten_65 : decode cL_isWritten 65 = .ok (.invokevirtual 90, 3) := by decide +kernel
theorem dL_isWritten_68 : decode cL_isWritten 68 = .ok (.iload_n 3, 1) := by decide +kernel
theorem dL_isWritten_69 : decode cL_isWritten 69 = .ok (.iconst 1, 1) := by decide +kernel
theorem dL_isWritten_70 : decode cL_isWritten 70 = .ok (.iadd, 1) := by decide +kernel
theorem dL_isWritten_71 : decode cL_isWritten 71 = .ok (.if_icmp .ne 7, 3) := by decide +kernel
theorem dL_isWritten_74 : decode cL_isWritten 74 = .ok (.iconst 1, 1) := by decide +kernel
theorem dL_isWritten_75 : decode cL_isWritten 75 = .ok (.goto 4, 3) := by decide +kernel
theorem dL_isWritten_78 : decode cL_isWritten 78 = .ok (.iconst 0, 1) := by decide +kernel
theorem dL_isWritten_79 : decode cL_isWritten 79 = .ok (.ireturn, 1) := by decide +kernel
theorem dL_isWritten_80 : decode cL_isWritten 80 = .ok (.aload_n 0, 1) := by decide +kernel
theorem dL_isWritten_81 : decode cL_isWritten 81 = .ok (.bipush 12, 2) := by decide +kernel
theorem dL_isWritten_83 : decode cL_isWritten 83 = .ok (.invokevirtual 93, 3) := by decide +kernel
theorem dL_isWritten_86 : decode cL_isWritten 86 = .ok (.pop, 1) := by decide +kernel
theorem dL_isWritten_87 : decode cL_isWritten 87 = .ok (.iconst 0, 1) := by decide +kernel
theorem dL_isWritten_88 : decode cL_isWritten 88 = .ok (.istore_n 3, 1) := by decide +kernel
theorem dL_isWritten_89 : decode cL_isWritten 89 = .ok (.iload_n 3, 1) := by decide +kernel
theorem dL_isWritten_90 : decode cL_isWritten 90 = .ok (.bipush 6, 2) := by decide +kernel
theorem dL_isWritten_92 : decode cL_isWritten 92 = .ok (.if_icmp .ge 55, 3) := by decide +kernel
theorem dL_isWritten_95 : decode cL_isWritten 95 = .ok (.aload_n 0, 1) := by decide +kernel
theorem dL_isWritten_96 : decode cL_isWritten 96 = .ok (.iload_n 2, 1) := by decide +kernel
theorem dL_isWritten_97 : decode cL_isWritten 97 = .ok (.iload_n 3, 1) := by decide +kernel
theorem dL_isWritten_98 : decode cL_isWritten 98 = .ok (.ishr, 1) := by decide +kernel
theorem dL_isWritten_99 : decode cL_isWritten 99 = .ok (.iconst 3, 1) := by decide +kernel
theorem dL_isWritten_100 : decode cL_isWritten 100 = .ok (.invokestatic 18, 3) := by decide +kernel
theorem dL_isWritten_103 : decode cL_isWritten 103 = .ok (.ifCond .ne 18, 3) := by decide +kernel
theorem dL_isWritten_106 : decode cL_isWritten 106 = .ok (.bipush 10, 2) := by decide +kernel
theorem dL_isWritten_108 : decode cL_isWritten 108 = .ok (.iload_n 2, 1) := by decide +kernel
theorem dL_isWritten_109 : decode cL_isWritten 109 = .ok (.iload_n 3, 1) := by decide +kernel
theorem dL_isWritten_110 : decode cL_isWritten 110 = .ok (.iconst 2, 1) := by decide +kernel
theorem dL_isWritten_111 : decode cL_isWritten 111 = .ok (.iadd, 1) := by decide +kernel
theorem dL_isWritten_112 : decode cL_isWritten 112 = .ok (.ishr, 1) := by decide +kernel
theorem dL_isWritten_113 : decode cL_isWritten 113 = .ok (.iconst 3, 1) := by decide +kernel
theorem dL_isWritten_114 : decode cL_isWritten 114 = .ok (.invokestatic 18, 3) := by decide +kernel
theorem dL_isWritten_117 : decode cL_isWritten 117 = .ok (.iadd, 1) := by decide +kernel
theorem dL_isWritten_118 : decode cL_isWritten 118 = .ok (.goto 12, 3) := by decide +kernel
theorem dL_isWritten_121 : decode cL_isWritten 121 = .ok (.iload_n 2, 1) := by decide +kernel
theorem dL_isWritten_122 : decode cL_isWritten 122 = .ok (.iload_n 3, 1) := by decide +kernel
theorem dL_isWritten_123 : decode cL_isWritten 123 = .ok (.iconst 1, 1) := by decide +kernel
theorem dL_isWritten_124 : decode cL_isWritten 124 = .ok (.iadd, 1) := by decide +kernel
theorem dL_isWritten_125 : decode cL_isWritten 125 = .ok (.ishr, 1) := by decide +kernel
theorem dL_isWritten_126 : decode cL_isWritten 126 = .ok (.iconst 4, 1) := by decide +kernel
theorem dL_isWritten_127 : decode cL_isWritten 127 = .ok (.invokestatic 18, 3) := by decide +kernel
theorem dL_isWritten_130 : decode cL_isWritten 130 = .ok (.invokevirtual 90, 3) := by decide +kernel
theorem dL_isWritten_133 : decode cL_isWritten 133 = .ok (.iload_n 3, 1) := by decide +kernel
theorem dL_isWritten_134 : decode cL_isWritten 134 = .ok (.iconst 1, 1) := by decide +kernel
theorem dL_isWritten_135 : decode cL_isWritten 135 = .ok (.iadd, 1) := by decide +kernel
theorem dL_isWritten_136 : decode cL_isWritten 136 = .ok (.if_icmp .eq 5, 3) := by decide +kernel
theorem dL_isWritten_139 : decode cL_isWritten 139 = .ok (.iconst 0, 1) := by decide +kernel
theorem dL_isWritten_140 : decode cL_isWritten 140 = .ok (.ireturn, 1) := by decide +kernel
theorem dL_isWritten_141 : decode cL_isWritten 141 = .ok (.iinc 3 1, 3) := by decide +kernel
theorem dL_isWritten_144 : decode cL_isWritten 144 = .ok (.goto (-55), 3) := by decide +kernel
theorem dL_isWritten_147 : decode cL_isWritten 147 = .ok (.iconst 1, 1) := by decide +kernel
theorem dL_isWritten_148 : decode cL_isWritten 148 = .ok (.ireturn, 1) := by decide +kernel
theorem dL_isCleared_0 : decode cL_isCleared 0 = .ok (.aload_n 0, 1) := by decide +kernel
theorem dL_isCleared_1 : decode cL_isCleared 1 = .ok (.iload_n 1, 1) := by decide +kernel
theorem dL_isCleared_2 : decode cL_isCleared 2 = .ok (.invokevirtual 96, 3) := by decide +kernel
theorem dL_isCleared_5 : decode cL_isCleared 5 = .ok (.istore_n 2, 1) := by decide +kernel
theorem dL_isCleared_6 : decode cL_isCleared 6 = .ok (.aload_n 0, 1) := by decide +kernel
theorem dL_isCleared_7 : decode cL_isCleared 7 = .ok (.iload_n 1, 1) := by decide +kernel
theorem dL_isCleared_8 : decode cL_isCleared 8 = .ok (.iconst 0, 1) := by decide +kernel
theorem dL_isCleared_9 : decode cL_isCleared 9 = .ok (.invokevirtual 44, 3) := by decide +kernel
theorem dL_isCleared_12 : decode cL_isCleared 12 = .ok (.iconst 1, 1) := by decide +kernel
theorem dL_isCleared_13 : decode cL_isCleared 13 = .ok (.if_icmp .ne 7, 3) := by decide +kernel
theorem dL_isCleared_16 : decode cL_isCleared 16 = .ok (.iload_n 2, 1) := by decide +kernel
theorem dL_isCleared_17 : decode cL_isCleared 17 = .ok (.ifCond .ne 29, 3) := by decide +kernel
theorem dL_isCleared_20 : decode cL_isCleared 20 = .ok (.aload_n 0, 1) := by decide +kernel
theorem dL_isCleared_21 : decode cL_isCleared 21 = .ok (.iload_n 1, 1) := by decide +kernel
theorem dL_isCleared_22 : decode cL_isCleared 22 = .ok (.iconst 2, 1) := by decide +kernel
theorem dL_isCleared_23 : decode cL_isCleared 23 = .ok (.invokevirtual 44, 3) := by decide +kernel
theorem dL_isCleared_26 : decode cL_isCleared 26 = .ok (.ifCond .le 7, 3) := by decide +kernel
theorem dL_isCleared_29 : decode cL_isCleared 29 = .ok (.iconst 1, 1) := by decide +kernel
theorem dL_isCleared_30 : decode cL_isCleared 30 = .ok (.goto 4, 3) := by decide +kernel
theorem dL_isCleared_33 : decode cL_isCleared 33 = .ok (.iconst 0, 1) := by decide +kernel
theorem dL_isCleared_34 : decode cL_isCleared 34 = .ok (.iload_n 2, 1) := by decide +kernel
theorem dL_isCleared_35 : decode cL_isCleared 35 = .ok (.ifCond .le 7, 3) := by decide +kernel
theorem dL_isCleared_38 : decode cL_isCleared 38 = .ok (.iconst 1, 1) := by decide +kernel
theorem dL_isCleared_39 : decode cL_isCleared 39 = .ok (.goto 4, 3) := by decide +kernel
theorem dL_isCleared_42 : decode cL_isCleared 42 = .ok (.iconst 0, 1) := by decide +kernel
theorem dL_isCleared_43 : decode cL_isCleared 43 = .ok (.if_icmp .eq 5, 3) := by decide +kernel
theorem dL_isCleared_46 : decode cL_isCleared 46 = .ok (.iconst 0, 1) := by decide +kernel
theorem dL_isCleared_47 : decode cL_isCleared 47 = .ok (.ireturn, 1) := by decide +kernel
theorem dL_isCleared_48 : decode cL_isCleared 48 = .ok (.bipush 10, 2) := by decide +kernel
theorem dL_isCleared_50 : decode cL_isCleared 50 = .ok (.newarray .int, 2) := by decide +kernel
theorem dL_isCleared_52 : decode cL_isCleared 52 = .ok (.astore_n 3, 1) := by decide +kernel
theorem dL_isCleared_53 : decode cL_isCleared 53 = .ok (.iconst 0, 1) := by decide +kernel
theorem dL_isCleared_54 : decode cL_isCleared 54 = .ok (.istore 4, 2) := by decide +kernel
theorem dL_isCleared_56 : decode cL_isCleared 56 = .ok (.iload 4, 2) := by decide +kernel
theorem dL_isCleared_58 : decode cL_isCleared 58 = .ok (.bipush 10, 2) := by decide +kernel
theorem dL_isCleared_60 : decode cL_isCleared 60 = .ok (.if_icmp .ge 31, 3) := by decide +kernel
theorem dL_isCleared_63 : decode cL_isCleared 63 = .ok (.iload_n 2, 1) := by decide +kernel
theorem dL_isCleared_64 : decode cL_isCleared 64 = .ok (.iload 4, 2) := by decide +kernel
theorem dL_isCleared_66 : decode cL_isCleared 66 = .ok (.ishr, 1) := by decide +kernel
theorem dL_isCleared_67 : decode cL_isCleared 67 = .ok (.iconst 1, 1) := by decide +kernel
theorem dL_isCleared_68 : decode cL_isCleared 68 = .ok (.iand, 1) := by decide +kernel
theorem dL_isCleared_69 : decode cL_isCleared 69 = .ok (.iconst 1, 1) := by decide +kernel
theorem dL_isCleared_70 : decode cL_isCleared 70 = .ok (.if_icmp .ne 15, 3) := by decide +kernel
theorem dL_isCleared_73 : decode cL_isCleared 73 = .ok (.aload_n 3, 1) := by decide +kernel
theorem dL_isCleared_74 : decode cL_isCleared 74 = .ok (.iload 4, 2) := by decide +kernel
theorem dL_isCleared_76 : decode cL_isCleared 76 = .ok (.aload_n 0, 1) := by decide +kernel
theorem dL_isCleared_77 : decode cL_isCleared 77 = .ok (.iload_n 1, 1) := by decide +kernel
theorem dL_isCleared_78 : decode cL_isCleared 78 = .ok (.iload 4, 2) := by decide +kernel
theorem dL_isCleared_80 : decode cL_isCleared 80 = .ok (.iconst (-1), 1) := by decide +kernel
theorem dL_isCleared_81 : decode cL_isCleared 81 = .ok (.invokevirtual 99, 3) := by decide +kernel
theorem dL_isCleared_84 : decode cL_isCleared 84 = .ok (.iastore, 1) := by decide +kernel
theorem dL_isCleared_85 : decode cL_isCleared 85 = .ok (.iinc 4 1, 3) := by decide +kernel
theorem dL_isCleared_88 : decode cL_isCleared 88 = .ok (.goto (-32), 3) := by decide +kernel
theorem dL_isCleared_91 : decode cL_isCleared 91 = .ok (.aload_n 0, 1) := by decide +kernel
theorem dL_isCleared_92 : decode cL_isCleared 92 = .ok (.iload_n 1, 1) := by decide +kernel
theorem dL_isCleared_93 : decode cL_isCleared 93 = .ok (.iconst 2, 1) := by decide +kernel
theorem dL_isCleared_94 : decode cL_isCleared 94 = .ok (.invokevirtual 44, 3) := by decide +kernel
theorem dL_isCleared_97 : decode cL_isCleared 97 = .ok (.ifCond .eq 5, 3) := by decide +kernel
theorem dL_isCleared_100 : decode cL_isCleared 100 = .ok (.iconst 0, 1) := by decide +kernel
theorem dL_isCleared_101 : decode cL_isCleared 101 = .ok (.ireturn, 1) := by decide +kernel
theorem dL_isCleared_102 : decode cL_isCleared 102 = .ok (.iconst 0, 1) := by decide +kernel
theorem dL_isCleared_103 : decode cL_isCleared 103 = .ok (.istore 4, 2) := by decide +kernel
theorem dL_isCleared_105 : decode cL_isCleared 105 = .ok (.iload 4, 2) := by decide +kernel
theorem dL_isCleared_107 : decode cL_isCleared 107 = .ok (.bipush 10, 2) := by decide +kernel
theorem dL_isCleared_109 : decode cL_isCleared 109 = .ok (.if_icmp .ge 36, 3) := by decide +kernel
theorem dL_isCleared_112 : decode cL_isCleared 112 = .ok (.iload_n 2, 1) := by decide +kernel
theorem dL_isCleared_113 : decode cL_isCleared 113 = .ok (.iload 4, 2) := by decide +kernel
theorem dL_isCleared_115 : decode cL_isCleared 115 = .ok (.ishr, 1) := by decide +kernel
theorem dL_isCleared_116 : decode cL_isCleared 116 = .ok (.iconst 1, 1) := by decide +kernel
theorem dL_isCleared_117 : decode cL_isCleared 117 = .ok (.iand, 1) := by decide +kernel
theorem dL_isCleared_118 : decode cL_isCleared 118 = .ok (.iconst 1, 1) := by decide +kernel
theorem dL_isCleared_119 : decode cL_isCleared 119 = .ok (.if_icmp .ne 20, 3) := by decide +kernel
theorem dL_isCleared_122 : decode cL_isCleared 122 = .ok (.aload_n 0, 1) := by decide +kernel
theorem dL_isCleared_123 : decode cL_isCleared 123 = .ok (.iload_n 1, 1) := by decide +kernel
theorem dL_isCleared_124 : decode cL_isCleared 124 = .ok (.iload 4, 2) := by decide +kernel
theorem dL_isCleared_126 : decode cL_isCleared 126 = .ok (.aload_n 3, 1) := by decide +kernel
theorem dL_isCleared_127 : decode cL_isCleared 127 = .ok (.iload 4, 2) := by decide +kernel
theorem dL_isCleared_129 : decode cL_isCleared 129 = .ok (.iaload, 1) := by decide +kernel
theorem dL_isCleared_130 : decode cL_isCleared 130 = .ok (.invokevirtual 99, 3) := by decide +kernel
theorem dL_isCleared_133 : decode cL_isCleared 133 = .ok (.iconst (-1), 1) := by decide +kernel
theorem dL_isCleared_134 : decode cL_isCleared 134 = .ok (.if_icmp .eq 5, 3) := by decide +kernel
theorem dL_isCleared_137 : decode cL_isCleared 137 = .ok (.iconst 0, 1) := by decide +kernel
theorem dL_isCleared_138 : decode cL_isCleared 138 = .ok (.ireturn, 1) := by decide +kernel
theorem dL_isCleared_139 : decode cL_isCleared 139 = .ok (.iinc 4 1, 3) := by decide +kernel
theorem dL_isCleared_142 : decode cL_isCleared 142 = .ok (.goto (-37), 3) := by decide +kernel
theorem dL_isCleared_145 : decode cL_isCleared 145 = .ok (.aload_n 0, 1) := by decide +kernel
theorem dL_isCleared_146 : decode cL_isCleared 146 = .ok (.iload_n 1, 1) := by decide +kernel
theorem dL_isCleared_147 : decode cL_isCleared 147 = .ok (.invokevirtual 96, 3) := by decide +kernel
theorem dL_isCleared_150 : decode cL_isCleared 150 = .ok (.iload_n 2, 1) := by decide +kernel
theorem dL_isCleared_151 : decode cL_isCleared 151 = .ok (.if_icmp .ne 7, 3) := by decide +kernel
theorem dL_isCleared_154 : decode cL_isCleared 154 = .ok (.iconst 1, 1) := by decide +kernel
theorem dL_isCleared_155 : decode cL_isCleared 155 = .ok (.goto 4, 3) := by decide +kernel
theorem dL_isCleared_158 : decode cL_isCleared 158 = .ok (.iconst 0, 1) := by decide +kernel
theorem dL_isCleared_159 : decode cL_isCleared 159 = .ok (.ireturn, 1) := by decide +kernel
theorem dL_isFair_0 : decode cL_isFair 0 = .ok (.aload_n 0, 1) := by decide +kernel
theorem dL_isFair_1 : decode cL_isFair 1 = .ok (.invokevirtual 102, 3) := by decide +kernel
theorem dL_isFair_4 : decode cL_isFair 4 = .ok (.lstore_n 1, 1) := by decide +kernel
theorem dL_isFair_5 : decode cL_isFair 5 = .ok (.aload_n 0, 1) := by decide +kernel
theorem dL_isFair_6 : decode cL_isFair 6 = .ok (.iconst 1, 1) := by decide +kernel
theorem dL_isFair_7 : decode cL_isFair 7 = .ok (.invokevirtual 30, 3) := by decide +kernel
theorem dL_isFair_10 : decode cL_isFair 10 = .ok (.istore_n 3, 1) := by decide +kernel
theorem dL_isFair_11 : decode cL_isFair 11 = .ok (.iconst 0, 1) := by decide +kernel
theorem dL_isFair_12 : decode cL_isFair 12 = .ok (.istore 4, 2) := by decide +kernel
theorem dL_isFair_14 : decode cL_isFair 14 = .ok (.iload 4, 2) := by decide +kernel
theorem dL_isFair_16 : decode cL_isFair 16 = .ok (.iload_n 3, 1) := by decide +kernel
theorem dL_isFair_17 : decode cL_isFair 17 = .ok (.if_icmp .ge 241, 3) := by decide +kernel
theorem dL_isFair_20 : decode cL_isFair 20 = .ok (.aload_n 0, 1) := by decide +kernel
theorem dL_isFair_21 : decode cL_isFair 21 = .ok (.iload 4, 2) := by decide +kernel
theorem dL_isFair_23 : decode cL_isFair 23 = .ok (.iload 4, 2) := by decide +kernel
theorem dL_isFair_25 : decode cL_isFair 25 = .ok (.invokevirtual 106, 3) := by decide +kernel
theorem dL_isFair_28 : decode cL_isFair 28 = .ok (.bipush 100, 2) := by decide +kernel
theorem dL_isFair_30 : decode cL_isFair 30 = .ok (.if_icmp .ne 35, 3) := by decide +kernel
theorem dL_isFair_33 : decode cL_isFair 33 = .ok (.aload_n 0, 1) := by decide +kernel
theorem dL_isFair_34 : decode cL_isFair 34 = .ok (.iload 4, 2) := by decide +kernel
theorem dL_isFair_36 : decode cL_isFair 36 = .ok (.iconst 3, 1) := by decide +kernel
theorem dL_isFair_37 : decode cL_isFair 37 = .ok (.invokevirtual 55, 3) := by decide +kernel
theorem dL_isFair_40 : decode cL_isFair 40 = .ok (.aload_n 0, 1) := by decide +kernel
theorem dL_isFair_41 : decode cL_isFair 41 = .ok (.iload 4, 2) := by decide +kernel
theorem dL_isFair_43 : decode cL_isFair 43 = .ok (.iconst 4, 1) := by decide +kernel
theorem dL_isFair_44 : decode cL_isFair 44 = .ok (.invokevirtual 55, 3) := by decide +kernel
theorem dL_isFair_47 : decode cL_isFair 47 = .ok (.iand, 1) := by decide +kernel
theorem dL_isFair_48 : decode cL_isFair 48 = .ok (.ifCond .ne 17, 3) := by decide +kernel
theorem dL_isFair_51 : decode cL_isFair 51 = .ok (.aload_n 0, 1) := by decide +kernel
theorem dL_isFair_52 : decode cL_isFair 52 = .ok (.iload 4, 2) := by decide +kernel
theorem dL_isFair_54 : decode cL_isFair 54 = .ok (.iconst 5, 1) := by decide +kernel
theorem dL_isFair_55 : decode cL_isFair 55 = .ok (.invokevirtual 55, 3) := by decide +kernel
theorem dL_isFair_58 : decode cL_isFair 58 = .ok (.iconst 1, 1) := by decide +kernel
theorem dL_isFair_59 : decode cL_isFair 59 = .ok (.iload 4, 2) := by decide +kernel
theorem dL_isFair_61 : decode cL_isFair 61 = .ok (.ishl, 1) := by decide +kernel
theorem dL_isFair_62 : decode cL_isFair 62 = .ok (.if_icmp .lt 5, 3) := by decide +kernel
theorem dL_isFair_65 : decode cL_isFair 65 = .ok (.iconst 0, 1) := by decide +kernel
theorem dL_isFair_66 : decode cL_isFair 66 = .ok (.ireturn, 1) := by decide +kernel
theorem dL_isFair_67 : decode cL_isFair 67 = .ok (.aload_n 0, 1) := by decide +kernel
theorem dL_isFair_68 : decode cL_isFair 68 = .ok (.iload 4, 2) := by decide +kernel
theorem dL_isFair_70 : decode cL_isFair 70 = .ok (.iconst 2, 1) := by decide +kernel
theorem dL_isFair_71 : decode cL_isFair 71 = .ok (.invokevirtual 55, 3) := by decide +kernel
theorem dL_isFair_74 : decode cL_isFair 74 = .ok (.istore 5, 2) := by decide +kernel
theorem dL_isFair_76 : decode cL_isFair 76 = .ok (.iload 5, 2) := by decide +kernel
theorem dL_isFair_78 : decode cL_isFair 78 = .ok (.ifCond .lt 35, 3) := by decide +kernel
theorem dL_isFair_81 : decode cL_isFair 81 = .ok (.aload_n 0, 1) := by decide +kernel
theorem dL_isFair_82 : decode cL_isFair 82 = .ok (.iload 4, 2) := by decide +kernel
theorem dL_isFair_84 : decode cL_isFair 84 = .ok (.iconst 3, 1) := by decide +kernel
theorem dL_isFair_85 : decode cL_isFair 85 = .ok (.invokevirtual 55, 3) := by decide +kernel
theorem dL_isFair_88 : decode cL_isFair 88 = .ok (.iload 5, 2) := by decide +kernel
theorem dL_isFair_90 : decode cL_isFair 90 = .ok (.ishr, 1) := by decide +kernel
theorem dL_isFair_91 : decode cL_isFair 91 = .ok (.iconst 1, 1) := by decide +kernel
theorem dL_isFair_92 : decode cL_isFair 92 = .ok (.iand, 1) := by decide +kernel
theorem dL_isFair_93 : decode cL_isFair 93 = .ok (.ifCond .ne 20, 3) := by decide +kernel
theorem dL_isFair_96 : decode cL_isFair 96 = .ok (.aload_n 0, 1) := by decide +kernel
theorem dL_isFair_97 : decode cL_isFair 97 = .ok (.iload 4, 2) := by decide +kernel
theorem dL_isFair_99 : decode cL_isFair 99 = .ok (.iconst 4, 1) := by decide +kernel
theorem dL_isFair_100 : decode cL_isFair 100 = .ok (.invokevirtual 55, 3) := by decide +kernel
theorem dL_isFair_103 : decode cL_isFair 103 = .ok (.iload 5, 2) := by decide +kernel
theorem dL_isFair_105 : decode cL_isFair 105 = .ok (.ishr, 1) := by decide +kernel
theorem dL_isFair_106 : decode cL_isFair 106 = .ok (.iconst 1, 1) := by decide +kernel
theorem dL_isFair_107 : decode cL_isFair 107 = .ok (.iand, 1) := by decide +kernel
theorem dL_isFair_108 : decode cL_isFair 108 = .ok (.ifCond .ne 5, 3) := by decide +kernel
theorem dL_isFair_111 : decode cL_isFair 111 = .ok (.iconst 0, 1) := by decide +kernel
theorem dL_isFair_112 : decode cL_isFair 112 = .ok (.ireturn, 1) := by decide +kernel
theorem dL_isFair_113 : decode cL_isFair 113 = .ok (.iconst 0, 1) := by decide +kernel
theorem dL_isFair_114 : decode cL_isFair 114 = .ok (.istore 6, 2) := by decide +kernel
theorem dL_isFair_116 : decode cL_isFair 116 = .ok (.iload 6, 2) := by decide +kernel
theorem dL_isFair_118 : decode cL_isFair 118 = .ok (.iload 4, 2) := by decide +kernel
theorem dL_isFair_120 : decode cL_isFair 120 = .ok (.if_icmp .ge 132, 3) := by decide +kernel
theorem dL_isFair_123 : decode cL_isFair 123 = .ok (.aload_n 0, 1) := by decide +kernel
theorem dL_isFair_124 : decode cL_isFair 124 = .ok (.iload 4, 2) := by decide +kernel
theorem dL_isFair_126 : decode cL_isFair 126 = .ok (.iload 6, 2) := by decide +kernel
theorem dL_isFair_128 : decode cL_isFair 128 = .ok (.invokevirtual 106, 3) := by decide +kernel
theorem dL_isFair_131 : decode cL_isFair 131 = .ok (.istore 7, 2) := by decide +kernel
theorem dL_isFair_133 : decode cL_isFair 133 = .ok (.iload 7, 2) := by decide +kernel
theorem dL_isFair_135 : decode cL_isFair 135 = .ok (.aload_n 0, 1) := by decide +kernel
theorem dL_isFair_136 : decode cL_isFair 136 = .ok (.iload 6, 2) := by decide +kernel
theorem dL_isFair_138 : decode cL_isFair 138 = .ok (.iload 4, 2) := by decide +kernel
theorem dL_isFair_140 : decode cL_isFair 140 = .ok (.invokevirtual 106, 3) := by decide +kernel
theorem dL_isFair_143 : decode cL_isFair 143 = .ok (.if_icmp .ne 71, 3) := by decide +kernel
theorem dL_isFair_146 : decode cL_isFair 146 = .ok (.iload 7, 2) := by decide +kernel
theorem dL_isFair_148 : decode cL_isFair 148 = .ok (.ifCond .lt 66, 3) := by decide +kernel
theorem dL_isFair_151 : decode cL_isFair 151 = .ok (.iload 7, 2) := by decide +kernel
theorem dL_isFair_153 : decode cL_isFair 153 = .ok (.bipush 100, 2) := by decide +kernel
theorem dL_isFair_155 : decode cL_isFair 155 = .ok (.if_icmp .gt 59, 3) := by decide +kernel
theorem dL_isFair_158 : decode cL_isFair 158 = .ok (.iload 7, 2) := by decide +kernel
theorem dL_isFair_160 : decode cL_isFair 160 = .ok (.aload_n 0, 1) := by decide +kernel
theorem dL_isFair_161 : decode cL_isFair 161 = .ok (.bipush 10, 2) := by decide +kernel
theorem dL_isFair_163 : decode cL_isFair 163 = .ok (.invokevirtual 30, 3) := by decide +kernel
theorem dL_isFair_166 : decode cL_isFair 166 = .ok (.if_icmp .lt 50, 3) := by decide +kernel
theorem dL_isFair_169 : decode cL_isFair 169 = .ok (.aload_n 0, 1) := by decide +kernel
theorem dL_isFair_170 : decode cL_isFair 170 = .ok (.iload 4, 2) := by decide +kernel
theorem dL_isFair_172 : decode cL_isFair 172 = .ok (.iconst 5, 1) := by decide +kernel
theorem dL_isFair_173 : decode cL_isFair 173 = .ok (.invokevirtual 55, 3) := by decide +kernel
theorem dL_isFair_176 : decode cL_isFair 176 = .ok (.iload 6, 2) := by decide +kernel
theorem dL_isFair_178 : decode cL_isFair 178 = .ok (.ishr, 1) := by decide +kernel
theorem dL_isFair_179 : decode cL_isFair 179 = .ok (.iconst 1, 1) := by decide +kernel
theorem dL_isFair_180 : decode cL_isFair 180 = .ok (.iand, 1) := by decide +kernel
theorem dL_isFair_181 : decode cL_isFair 181 = .ok (.ifCond .eq 33, 3) := by decide +kernel
theorem dL_isFair_184 : decode cL_isFair 184 = .ok (.aload_n 0, 1) := by decide +kernel
theorem dL_isFair_185 : decode cL_isFair 185 = .ok (.iload 6, 2) := by decide +kernel
theorem dL_isFair_187 : decode cL_isFair 187 = .ok (.iconst 3, 1) := by decide +kernel
theorem dL_isFair_188 : decode cL_isFair 188 = .ok (.invokevirtual 55, 3) := by decide +kernel
theorem dL_isFair_191 : decode cL_isFair 191 = .ok (.aload_n 0, 1) := by decide +kernel
theorem dL_isFair_192 : decode cL_isFair 192 = .ok (.iload 4, 2) := by decide +kernel
theorem dL_isFair_194 : decode cL_isFair 194 = .ok (.iconst 3, 1) := by decide +kernel
theorem dL_isFair_195 : decode cL_isFair 195 = .ok (.invokevirtual 55, 3) := by decide +kernel
theorem dL_isFair_198 : decode cL_isFair 198 = .ok (.iconst (-1), 1) := by decide +kernel
theorem dL_isFair_199 : decode cL_isFair 199 = .ok (.ixor, 1) := by decide +kernel
theorem dL_isFair_200 : decode cL_isFair 200 = .ok (.iand, 1) := by decide +kernel
theorem dL_isFair_201 : decode cL_isFair 201 = .ok (.aload_n 0, 1) := by decide +kernel
theorem dL_isFair_202 : decode cL_isFair 202 = .ok (.iload 4, 2) := by decide +kernel
theorem dL_isFair_204 : decode cL_isFair 204 = .ok (.iconst 4, 1) := by decide +kernel
theorem dL_isFair_205 : decode cL_isFair 205 = .ok (.invokevirtual 55, 3) := by decide +kernel
theorem dL_isFair_208 : decode cL_isFair 208 = .ok (.iconst (-1), 1) := by decide +kernel
theorem dL_isFair_209 : decode cL_isFair 209 = .ok (.ixor, 1) := by decide +kernel
theorem dL_isFair_210 : decode cL_isFair 210 = .ok (.iand, 1) := by decide +kernel
theorem dL_isFair_211 : decode cL_isFair 211 = .ok (.ifCond .eq 5, 3) := by decide +kernel
theorem dL_isFair_214 : decode cL_isFair 214 = .ok (.iconst 0, 1) := by decide +kernel
theorem dL_isFair_215 : decode cL_isFair 215 = .ok (.ireturn, 1) := by decide +kernel
theorem dL_isFair_216 : decode cL_isFair 216 = .ok (.aload_n 0, 1) := by decide +kernel
theorem dL_isFair_217 : decode cL_isFair 217 = .ok (.iload 4, 2) := by decide +kernel
theorem dL_isFair_219 : decode cL_isFair 219 = .ok (.iconst 5, 1) := by decide +kernel
theorem dL_isFair_220 : decode cL_isFair 220 = .ok (.invokevirtual 55, 3) := by decide +kernel
theorem dL_isFair_223 : decode cL_isFair 223 = .ok (.iload 6, 2) := by decide +kernel
theorem dL_isFair_225 : decode cL_isFair 225 = .ok (.ishr, 1) := by decide +kernel
theorem dL_isFair_226 : decode cL_isFair 226 = .ok (.iconst 1, 1) := by decide +kernel
theorem dL_isFair_227 : decode cL_isFair 227 = .ok (.iand, 1) := by decide +kernel
theorem dL_isFair_228 : decode cL_isFair 228 = .ok (.aload_n 0, 1) := by decide +kernel
theorem dL_isFair_229 : decode cL_isFair 229 = .ok (.iload 6, 2) := by decide +kernel
theorem dL_isFair_231 : decode cL_isFair 231 = .ok (.bipush 6, 2) := by decide +kernel
theorem dL_isFair_233 : decode cL_isFair 233 = .ok (.invokevirtual 55, 3) := by decide +kernel
theorem dL_isFair_236 : decode cL_isFair 236 = .ok (.iload 4, 2) := by decide +kernel
theorem dL_isFair_238 : decode cL_isFair 238 = .ok (.ishr, 1) := by decide +kernel
theorem dL_isFair_239 : decode cL_isFair 239 = .ok (.iconst 1, 1) := by decide +kernel
theorem dL_isFair_240 : decode cL_isFair 240 = .ok (.iand, 1) := by decide +kernel
theorem dL_isFair_241 : decode cL_isFair 241 = .ok (.if_icmp .eq 5, 3) := by decide +kernel
theorem dL_isFair_244 : decode cL_isFair 244 = .ok (.iconst 0, 1) := by decide +kernel
theorem dL_isFair_245 : decode cL_isFair 245 = .ok (.ireturn, 1) := by decide +kernel
theorem dL_isFair_246 : decode cL_isFair 246 = .ok (.iinc 6 1, 3) := by decide +kernel
theorem dL_isFair_249 : decode cL_isFair 249 = .ok (.goto (-133), 3) := by decide +kernel
theorem dL_isFair_252 : decode cL_isFair 252 = .ok (.iinc 4 1, 3) := by decide +kernel
theorem dL_isFair_255 : decode cL_isFair 255 = .ok (.goto (-241), 3) := by decide +kernel
theorem dL_isFair_258 : decode cL_isFair 258 = .ok (.iconst 0, 1) := by decide +kernel
theorem dL_isFair_259 : decode cL_isFair 259 = .ok (.istore 4, 2) := by decide +kernel
theorem dL_isFair_261 : decode cL_isFair 261 = .ok (.iload 4, 2) := by decide +kernel
theorem dL_isFair_263 : decode cL_isFair 263 = .ok (.iconst 4, 1) := by decide +kernel
theorem dL_isFair_264 : decode cL_isFair 264 = .ok (.if_icmp .ge 53, 3) := by decide +kernel
theorem dL_isFair_267 : decode cL_isFair 267 = .ok (.iconst 0, 1) := by decide +kernel
theorem dL_isFair_268 : decode cL_isFair 268 = .ok (.istore 5, 2) := by decide +kernel
theorem dL_isFair_270 : decode cL_isFair 270 = .ok (.iload 5, 2) := by decide +kernel
theorem dL_isFair_272 : decode cL_isFair 272 = .ok (.iconst 4, 1) := by decide +kernel
theorem dL_isFair_273 : decode cL_isFair 273 = .ok (.if_icmp .ge 38, 3) := by decide +kernel
theorem dL_isFair_276 : decode cL_isFair 276 = .ok (.aload_n 0, 1) := by decide +kernel
theorem dL_isFair_277 : decode cL_isFair 277 = .ok (.iload 4, 2) := by decide +kernel
theorem dL_isFair_279 : decode cL_isFair 279 = .ok (.iconst 4, 1) := by decide +kernel
theorem dL_isFair_280 : decode cL_isFair 280 = .ok (.invokevirtual 58, 3) := by decide +kernel
theorem dL_isFair_283 : decode cL_isFair 283 = .ok (.iload 5, 2) := by decide +kernel
theorem dL_isFair_285 : decode cL_isFair 285 = .ok (.ishr, 1) := by decide +kernel
theorem dL_isFair_286 : decode cL_isFair 286 = .ok (.iconst 1, 1) := by decide +kernel
theorem dL_isFair_287 : decode cL_isFair 287 = .ok (.iand, 1) := by decide +kernel
theorem dL_isFair_288 : decode cL_isFair 288 = .ok (.aload_n 0, 1) := by decide +kernel
theorem dL_isFair_289 : decode cL_isFair 289 = .ok (.iload 5, 2) := by decide +kernel
theorem dL_isFair_291 : decode cL_isFair 291 = .ok (.iconst 4, 1) := by decide +kernel
theorem dL_isFair_292 : decode cL_isFair 292 = .ok (.invokevirtual 58, 3) := by decide +kernel
theorem dL_isFair_295 : decode cL_isFair 295 = .ok (.iload 4, 2) := by decide +kernel
theorem dL_isFair_297 : decode cL_isFair 297 = .ok (.ishr, 1) := by decide +kernel
theorem dL_isFair_298 : decode cL_isFair 298 = .ok (.iconst 1, 1) := by decide +kernel
theorem dL_isFair_299 : decode cL_isFair 299 = .ok (.iand, 1) := by decide +kernel
theorem dL_isFair_300 : decode cL_isFair 300 = .ok (.if_icmp .eq 5, 3) := by decide +kernel
theorem dL_isFair_303 : decode cL_isFair 303 = .ok (.iconst 0, 1) := by decide +kernel
theorem dL_isFair_304 : decode cL_isFair 304 = .ok (.ireturn, 1) := by decide +kernel
theorem dL_isFair_305 : decode cL_isFair 305 = .ok (.iinc 5 1, 3) := by decide +kernel
theorem dL_isFair_308 : decode cL_isFair 308 = .ok (.goto (-38), 3) := by decide +kernel
theorem dL_isFair_311 : decode cL_isFair 311 = .ok (.iinc 4 1, 3) := by decide +kernel
theorem dL_isFair_314 : decode cL_isFair 314 = .ok (.goto (-53), 3) := by decide +kernel
theorem dL_isFair_317 : decode cL_isFair 317 = .ok (.iconst 0, 1) := by decide +kernel
theorem dL_isFair_318 : decode cL_isFair 318 = .ok (.istore 4, 2) := by decide +kernel
theorem dL_isFair_320 : decode cL_isFair 320 = .ok (.iload 4, 2) := by decide +kernel
theorem dL_isFair_322 : decode cL_isFair 322 = .ok (.iconst 2, 1) := by decide +kernel
theorem dL_isFair_323 : decode cL_isFair 323 = .ok (.if_icmp .ge 152, 3) := by decide +kernel
theorem dL_isFair_326 : decode cL_isFair 326 = .ok (.iconst 0, 1) := by decide +kernel
theorem dL_isFair_327 : decode cL_isFair 327 = .ok (.istore 5, 2) := by decide +kernel
theorem dL_isFair_329 : decode cL_isFair 329 = .ok (.iload 5, 2) := by decide +kernel
theorem dL_isFair_331 : decode cL_isFair 331 = .ok (.bipush 10, 2) := by decide +kernel
theorem dL_isFair_333 : decode cL_isFair 333 = .ok (.if_icmp .ge 136, 3) := by decide +kernel
theorem dL_isFair_336 : decode cL_isFair 336 = .ok (.aload_n 0, 1) := by decide +kernel
theorem dL_isFair_337 : decode cL_isFair 337 = .ok (.iload 4, 2) := by decide +kernel
theorem dL_isFair_339 : decode cL_isFair 339 = .ok (.bipush 6, 2) := by decide +kernel
theorem dL_isFair_341 : decode cL_isFair 341 = .ok (.invokevirtual 44, 3) := by decide +kernel
theorem dL_isFair_344 : decode cL_isFair 344 = .ok (.iload 5, 2) := by decide +kernel
theorem dL_isFair_346 : decode cL_isFair 346 = .ok (.ishr, 1) := by decide +kernel
theorem dL_isFair_347 : decode cL_isFair 347 = .ok (.iconst 1, 1) := by decide +kernel
theorem dL_isFair_348 : decode cL_isFair 348 = .ok (.iand, 1) := by decide +kernel
theorem dL_isFair_349 : decode cL_isFair 349 = .ok (.ifCond .ne 6, 3) := by decide +kernel
theorem dL_isFair_352 : decode cL_isFair 352 = .ok (.goto 111, 3) := by decide +kernel
theorem dL_isFair_355 : decode cL_isFair 355 = .ok (.aload_n 0, 1) := by decide +kernel
theorem dL_isFair_356 : decode cL_isFair 356 = .ok (.iload 4, 2) := by decide +kernel
theorem dL_isFair_358 : decode cL_isFair 358 = .ok (.iload 5, 2) := by decide +kernel
theorem dL_isFair_360 : decode cL_isFair 360 = .ok (.iconst 3, 1) := by decide +kernel
theorem dL_isFair_361 : decode cL_isFair 361 = .ok (.invokevirtual 109, 3) := by decide +kernel
theorem dL_isFair_364 : decode cL_isFair 364 = .ok (.istore 6, 2) := by decide +kernel
theorem dL_isFair_366 : decode cL_isFair 366 = .ok (.iconst 0, 1) := by decide +kernel
theorem dL_isFair_367 : decode cL_isFair 367 = .ok (.istore 7, 2) := by decide +kernel
theorem dL_isFair_369 : decode cL_isFair 369 = .ok (.iload 7, 2) := by decide +kernel
theorem dL_isFair_371 : decode cL_isFair 371 = .ok (.bipush 10, 2) := by decide +kernel
theorem dL_isFair_373 : decode cL_isFair 373 = .ok (.if_icmp .ge 39, 3) := by decide +kernel
theorem dL_isFair_376 : decode cL_isFair 376 = .ok (.iload 6, 2) := by decide +kernel
theorem dL_isFair_378 : decode cL_isFair 378 = .ok (.iload 7, 2) := by decide +kernel
theorem dL_isFair_380 : decode cL_isFair 380 = .ok (.ishr, 1) := by decide +kernel
theorem dL_isFair_381 : decode cL_isFair 381 = .ok (.iconst 1, 1) := by decide +kernel
theorem dL_isFair_382 : decode cL_isFair 382 = .ok (.iand, 1) := by decide +kernel
theorem dL_isFair_383 : decode cL_isFair 383 = .ok (.iconst 1, 1) := by decide +kernel
theorem dL_isFair_384 : decode cL_isFair 384 = .ok (.if_icmp .ne 22, 3) := by decide +kernel
theorem dL_isFair_387 : decode cL_isFair 387 = .ok (.aload_n 0, 1) := by decide +kernel
theorem dL_isFair_388 : decode cL_isFair 388 = .ok (.iload 4, 2) := by decide +kernel
theorem dL_isFair_390 : decode cL_isFair 390 = .ok (.iload 7, 2) := by decide +kernel
theorem dL_isFair_392 : decode cL_isFair 392 = .ok (.iconst 3, 1) := by decide +kernel
theorem dL_isFair_393 : decode cL_isFair 393 = .ok (.invokevirtual 109, 3) := by decide +kernel
theorem dL_isFair_396 : decode cL_isFair 396 = .ok (.iload 5, 2) := by decide +kernel
theorem dL_isFair_398 : decode cL_isFair 398 = .ok (.ishr, 1) := by decide +kernel
theorem dL_isFair_399 : decode cL_isFair 399 = .ok (.iconst 1, 1) := by decide +kernel
theorem dL_isFair_400 : decode cL_isFair 400 = .ok (.iand, 1) := by decide +kernel
theorem dL_isFair_401 : decode cL_isFair 401 = .ok (.ifCond .ne 5, 3) := by decide +kernel
theorem dL_isFair_404 : decode cL_isFair 404 = .ok (.iconst 0, 1) := by decide +kernel
theorem dL_isFair_405 : decode cL_isFair 405 = .ok (.ireturn, 1) := by decide +kernel
theorem dL_isFair_406 : decode cL_isFair 406 = .ok (.iinc 7 1, 3) := by decide +kernel
theorem dL_isFair_409 : decode cL_isFair 409 = .ok (.goto (-40), 3) := by decide +kernel
theorem dL_isFair_412 : decode cL_isFair 412 = .ok (.aload_n 0, 1) := by decide +kernel
theorem dL_isFair_413 : decode cL_isFair 413 = .ok (.iload 4, 2) := by decide +kernel
theorem dL_isFair_415 : decode cL_isFair 415 = .ok (.iload 5, 2) := by decide +kernel
theorem dL_isFair_417 : decode cL_isFair 417 = .ok (.invokevirtual 112, 3) := by decide +kernel
theorem dL_isFair_420 : decode cL_isFair 420 = .ok (.istore 7, 2) := by decide +kernel
theorem dL_isFair_422 : decode cL_isFair 422 = .ok (.iload 7, 2) := by decide +kernel
theorem dL_isFair_424 : decode cL_isFair 424 = .ok (.ifCond .lt 39, 3) := by decide +kernel
theorem dL_isFair_427 : decode cL_isFair 427 = .ok (.iload 7, 2) := by decide +kernel
theorem dL_isFair_429 : decode cL_isFair 429 = .ok (.aload_n 0, 1) := by decide +kernel
theorem dL_isFair_430 : decode cL_isFair 430 = .ok (.iload 4, 2) := by decide +kernel
theorem dL_isFair_432 : decode cL_isFair 432 = .ok (.iload 5, 2) := by decide +kernel
theorem dL_isFair_434 : decode cL_isFair 434 = .ok (.iconst 1, 1) := by decide +kernel
theorem dL_isFair_435 : decode cL_isFair 435 = .ok (.invokevirtual 109, 3) := by decide +kernel
theorem dL_isFair_438 : decode cL_isFair 438 = .ok (.if_icmp .eq 23, 3) := by decide +kernel
theorem dL_isFair_441 : decode cL_isFair 441 = .ok (.aload_n 0, 1) := by decide +kernel
theorem dL_isFair_442 : decode cL_isFair 442 = .ok (.iload 4, 2) := by decide +kernel
theorem dL_isFair_444 : decode cL_isFair 444 = .ok (.iload 5, 2) := by decide +kernel
theorem dL_isFair_446 : decode cL_isFair 446 = .ok (.iload 7, 2) := by decide +kernel
theorem dL_isFair_448 : decode cL_isFair 448 = .ok (.invokevirtual 115, 3) := by decide +kernel
theorem dL_isFair_451 : decode cL_isFair 451 = .ok (.aload_n 0, 1) := by decide +kernel
theorem dL_isFair_452 : decode cL_isFair 452 = .ok (.iload 4, 2) := by decide +kernel
theorem dL_isFair_454 : decode cL_isFair 454 = .ok (.iconst 2, 1) := by decide +kernel
theorem dL_isFair_455 : decode cL_isFair 455 = .ok (.invokevirtual 44, 3) := by decide +kernel
theorem dL_isFair_458 : decode cL_isFair 458 = .ok (.if_icmp .le 5, 3) := by decide +kernel
theorem dL_isFair_461 : decode cL_isFair 461 = .ok (.iconst 0, 1) := by decide +kernel
theorem dL_isFair_462 : decode cL_isFair 462 = .ok (.ireturn, 1) := by decide +kernel
theorem dL_isFair_463 : decode cL_isFair 463 = .ok (.iinc 5 1, 3) := by decide +kernel
theorem dL_isFair_466 : decode cL_isFair 466 = .ok (.goto (-137), 3) := by decide +kernel
theorem dL_isFair_469 : decode cL_isFair 469 = .ok (.iinc 4 1, 3) := by decide +kernel
theorem dL_isFair_472 : decode cL_isFair 472 = .ok (.goto (-152), 3) := by decide +kernel
theorem dL_isFair_475 : decode cL_isFair 475 = .ok (.aload_n 0, 1) := by decide +kernel
theorem dL_isFair_476 : decode cL_isFair 476 = .ok (.aload_n 0, 1) := by decide +kernel
theorem dL_isFair_477 : decode cL_isFair 477 = .ok (.bipush 10, 2) := by decide +kernel
theorem dL_isFair_479 : decode cL_isFair 479 = .ok (.invokevirtual 30, 3) := by decide +kernel
theorem dL_isFair_482 : decode cL_isFair 482 = .ok (.invokevirtual 118, 3) := by decide +kernel
theorem dL_isFair_485 : decode cL_isFair 485 = .ok (.ifCond .ne 16, 3) := by decide +kernel
theorem dL_isFair_488 : decode cL_isFair 488 = .ok (.aload_n 0, 1) := by decide +kernel
theorem dL_isFair_489 : decode cL_isFair 489 = .ok (.invokevirtual 102, 3) := by decide +kernel
theorem dL_isFair_492 : decode cL_isFair 492 = .ok (.lload_n 1, 1) := by decide +kernel
theorem dL_isFair_493 : decode cL_isFair 493 = .ok (.lcmp, 1) := by decide +kernel
theorem dL_isFair_494 : decode cL_isFair 494 = .ok (.ifCond .ne 7, 3) := by decide +kernel
theorem dL_isFair_497 : decode cL_isFair 497 = .ok (.iconst 1, 1) := by decide +kernel
theorem dL_isFair_498 : decode cL_isFair 498 = .ok (.goto 4, 3) := by decide +kernel
theorem dL_isFair_501 : decode cL_isFair 501 = .ok (.iconst 0, 1) := by decide +kernel
theorem dL_isFair_502 : decode cL_isFair 502 = .ok (.ireturn, 1) := by decide +kernel
abbrev vwCl : List vw_C := [(RX0, TX0, 4), (RX1, TX1, 5), (RX2, TX2, 3), (RX3, TX3, 8), (RX4, TX4, 4), (RX5, TX5, 13)]
end
section
/-! My own words for the whole system: after the constructor nothing is allocated and no reference changes, so a state is two maps: I a k, the int in slot k of the object at a; A a j, the int at place j of the array at a. K: the kind of each address; N: an array's length; F a k, G a j: the references in objects, in arrays of references. -/
abbrev zH : Type := Nat → Nat → Int32
def up2 (I : zH) (a k : Nat) (v : Int32) : zH := fun b j => if b = a then (if j = k then v else I b j) else I b j
def zF (c : Nat) (F : Nat → Nat → Nat) (I : zH) (a : Nat) : List Value := match c with
  | 0 => [.ref (F a 0), .ref (F a 1), .ref (F a 2), .ref (F a 3)]
  | 1 => [.int (I a 0), .int (I a 1), .int (I a 2), .int (I a 3), .int (I a 4)]
  | 2 => [.ref (F a 0), .int (I a 1), .int (I a 2)]
  | 3 => [.ref (F a 0), .ref (F a 1), .ref (F a 2), .ref (F a 3), .int (I a 4), .int (I a 5), .int (I a 6), .int (I a 7)]
  | 4 => [.ref (F a 0), .ref (F a 1), .int (I a 2), .int (I a 3)]
  | _ => [.ref (F a 0), .ref (F a 1), .ref (F a 2), .ref (F a 3), .ref (F a 4), .ref (F a 5), .ref (F a 6), .ref (F a 7), .int (I a 8), .int (I a 9), .int (I a 10), .int (I a 11), .int (I a 12)]
def zM (cy : Nat → ClassId) (K N : Nat → Nat) (F G : Nat → Nat → Nat) (I A : zH) : Nat → va_E := fun a =>
  if K a < 6 then .inr (K a, zF (K a) F I a) else if K a = 6 then .inl (cy 6, N a, .inl (A a)) else .inl (cy (K a), N a, .inr (.inr (.inr (.inr (fun j => some (G a j))))))
def zTys (cy : Nat → ClassId) : List (ClassId × FieldType) := [(cy 6, .int), (cy 7, .object "SnippetBank$Licence"), (cy 8, .object "SnippetBank$Piece"), (cy 9, .object "SnippetBank$Project"), (cy 10, .array .int)]
def zNd (L : List Nat) : Prop := ∀ (i j x : Nat), L[i]? = some x → L[j]? = some x → i = j
/-- what never changes: which address is of which kind, and what the references hold -/
def ZL (L : List Nat) (K N : Nat → Nat) (F G : Nat → Nat → Nat) : Prop :=
  (∀ a, K a < 11 → a ∈ L) ∧ zNd L ∧
  (∀ a, K a = 0 → ∀ k, k < 4 → K (F a k) = 6 ∧ N (F a k) = 16) ∧
  (∀ a, K a = 2 → K (F a 0) = 4) ∧
  (∀ a, K a = 3 → ∀ k, k < 4 → K (F a k) = 6 ∧ N (F a k) = 10) ∧
  (∀ a, K a = 4 → (K (F a 0) = 6 ∧ N (F a 0) = 12) ∧ (K (F a 1) = 6 ∧ N (F a 1) = 9)) ∧
  (∀ a, K a = 5 → K (F a 0) = 4 ∧ (K (F a 1) = 8 ∧ N (F a 1) = 16) ∧ (K (F a 2) = 10 ∧ N (F a 2) = 16) ∧ (K (F a 3) = 6 ∧ N (F a 3) = 16) ∧ (K (F a 4) = 7 ∧ N (F a 4) = 6) ∧ (K (F a 5) = 9 ∧ N (F a 5) = 5) ∧ K (F a 6) = 0 ∧ K (F a 7) = 0) ∧
  (∀ a, K a = 7 → ∀ i, i < N a → K (G a i) = 1) ∧ (∀ a, K a = 8 → ∀ i, i < N a → K (G a i) = 2) ∧ (∀ a, K a = 9 → ∀ i, i < N a → K (G a i) = 3) ∧
  (∀ a, K a = 10 → ∀ i, i < N a → K (G a i) = 6 ∧ N (G a i) = 16)
section ZLF
variable {L : List Nat} {K N : Nat → Nat} {F G : Nat → Nat → Nat} {a i : Nat}
theorem zl_in (h : ZL L K N F G) {c : Nat} (hk : K a = c) (hc : c < 11) : a ∈ L := h.1 a (by omega)
theorem zt0 (h : ZL L K N F G) (hk : K a = 0) (k : Nat) (h4 : k < 4) : K (F a k) = 6 ∧ N (F a k) = 16 := h.2.2.1 a hk k h4
theorem zt2 (h : ZL L K N F G) (hk : K a = 2) : K (F a 0) = 4 := h.2.2.2.1 a hk
theorem zt3 (h : ZL L K N F G) (hk : K a = 3) (k : Nat) (h4 : k < 4) : K (F a k) = 6 ∧ N (F a k) = 10 := h.2.2.2.2.1 a hk k h4
theorem zt40 (h : ZL L K N F G) (hk : K a = 4) : K (F a 0) = 6 ∧ N (F a 0) = 12 := (h.2.2.2.2.2.1 a hk).1
theorem zt41 (h : ZL L K N F G) (hk : K a = 4) : K (F a 1) = 6 ∧ N (F a 1) = 9 := (h.2.2.2.2.2.1 a hk).2
theorem zt50 (h : ZL L K N F G) (hk : K a = 5) : K (F a 0) = 4 := (h.2.2.2.2.2.2.1 a hk).1
theorem zt51 (h : ZL L K N F G) (hk : K a = 5) : K (F a 1) = 8 ∧ N (F a 1) = 16 := (h.2.2.2.2.2.2.1 a hk).2.1
theorem zt52 (h : ZL L K N F G) (hk : K a = 5) : K (F a 2) = 10 ∧ N (F a 2) = 16 := (h.2.2.2.2.2.2.1 a hk).2.2.1
theorem zt53 (h : ZL L K N F G) (hk : K a = 5) : K (F a 3) = 6 ∧ N (F a 3) = 16 := (h.2.2.2.2.2.2.1 a hk).2.2.2.1
theorem zt54 (h : ZL L K N F G) (hk : K a = 5) : K (F a 4) = 7 ∧ N (F a 4) = 6 := (h.2.2.2.2.2.2.1 a hk).2.2.2.2.1
theorem zt55 (h : ZL L K N F G) (hk : K a = 5) : K (F a 5) = 9 ∧ N (F a 5) = 5 := (h.2.2.2.2.2.2.1 a hk).2.2.2.2.2.1
theorem zt56 (h : ZL L K N F G) (hk : K a = 5) : K (F a 6) = 0 := (h.2.2.2.2.2.2.1 a hk).2.2.2.2.2.2.1
theorem zt57 (h : ZL L K N F G) (hk : K a = 5) : K (F a 7) = 0 := (h.2.2.2.2.2.2.1 a hk).2.2.2.2.2.2.2
theorem zt7 (h : ZL L K N F G) (hk : K a = 7) (hi : i < N a) : K (G a i) = 1 := h.2.2.2.2.2.2.2.1 a hk i hi
theorem zt8 (h : ZL L K N F G) (hk : K a = 8) (hi : i < N a) : K (G a i) = 2 := h.2.2.2.2.2.2.2.2.1 a hk i hi
theorem zt9 (h : ZL L K N F G) (hk : K a = 9) (hi : i < N a) : K (G a i) = 3 := h.2.2.2.2.2.2.2.2.2.1 a hk i hi
theorem zt10 (h : ZL L K N F G) (hk : K a = 10) (hi : i < N a) : K (G a i) = 6 ∧ N (G a i) = 16 := h.2.2.2.2.2.2.2.2.2.2 a hk i hi
end ZLF
theorem z_ix {n m : Nat} {i : Int32} (hn : m = n) (h : ¬ (i < 0 ∨ n ≤ i.toNatClampNeg)) : i.toNatClampNeg < m := by
  have := fun q => h (Or.inr q)
  omega
def zA (L : List Nat) (sz : Nat) : Nat → Prop := fun q => q ∈ L ∨ sz ≤ q
theorem z_D {L : List Nat} (hN : zNd L) (sz : Nat) (f : Nat → va_E) : va_D (zA L sz) (va_pl L f) := by
  refine ⟨fun i j p q hi hj h => ?_, fun k q hk => ?_⟩
  · unfold va_pl at hi hj
    rw [List.getElem?_map] at hi hj
    cases h1 : L[i]? with
    | none => rw [h1] at hi; cases hi
    | some x =>
      cases h2 : L[j]? with
      | none => rw [h2] at hj; cases hj
      | some y =>
        rw [h1] at hi
        rw [h2] at hj
        cases hi
        cases hj
        have hxy : x = y := h
        exact hN i j x h1 (by rw [h2, hxy])
  · unfold va_pl at hk
    obtain ⟨x, h1, h2⟩ := List.mem_map.mp (List.mem_of_getElem? hk)
    subst h2
    exact Or.inl h1
theorem z_getk {L : List Nat} {f : Nat → va_E} {a : Nat} (h : a ∈ L) : ∃ k : Nat, (va_pl L f)[k]? = some (a, f a) := by
  obtain ⟨k, hk⟩ := va_pl_get (X := []) (f := f) h
  exact ⟨k, hk⟩
theorem z_set {A : Nat → Prop} {L : List Nat} {f g : Nat → va_E} {a k : Nat} {e : va_E} (hD : va_D A (va_pl L f)) (h : a ∈ L) (hk : (va_pl L f)[k]? = some (a, f a)) (hg : ∀ b, va_up f a e b = g b) : (va_pl L f).set k (a, e) = va_pl L g := by
  have h1 := va_pl_set (X := []) hD h hk (e := e)
  rw [List.nil_append, List.nil_append] at h1
  rw [h1]
  exact va_pl_congr hg
/-- the words of the tables that every method may use: the good ones -/
def zW : List Cond := lw_tbl.filter goodWord
theorem zIn {w : Cond} (i : Nat) (h : tables_1[i]? = some w) (hg : goodWord w = true) : w ∈ zW := List.mem_filter.mpr ⟨List.mem_append_right _ (List.mem_of_getElem? h), hg⟩
theorem zInS {w : Cond} (i : Nat) (h : (k2_sels lw_privs)[i]? = some w) (hg : goodWord w = true) : w ∈ zW := List.mem_filter.mpr ⟨List.mem_append_left _ (List.mem_of_getElem? h), hg⟩
theorem zW_good {w : Cond} (h : w ∈ zW) : (w.onTables && w.keeps) = true ∨ ∃ ty, w = .arrayClass ty := good_of_word (List.mem_filter.mp h).2
theorem zGood {c0 : Cond} (h : c0 ∈ zW) : GoodIn zW (c0 :: zW) := fun w hw => by
  rcases List.mem_cons.mp hw with rfl | hw
  · exact ⟨h, zW_good h⟩
  · exact ⟨hw, zW_good hw⟩
theorem zGV {own C : String} {idx : Nat} {y : MethodName} {c0 : Cond} (h1 : Cond.methodLink own idx y ∈ zW) (h2 : Cond.instanceMethod y ∈ zW) (h3 : Cond.selects C y y ∈ zW) (h4 : Cond.initialized C ∈ zW) (h5 : c0 ∈ zW) : GoodIn zW (wsV own idx C y (c0 :: zW)) := fun w hw => by
  rcases List.mem_append.mp hw with hw | hw
  · simp only [List.mem_cons, List.not_mem_nil, or_false] at hw
    rcases hw with rfl | rfl | rfl | rfl
    · exact ⟨h1, zW_good h1⟩
    · exact ⟨h2, zW_good h2⟩
    · exact ⟨h3, zW_good h3⟩
    · exact ⟨h4, zW_good h4⟩
  · exact zGood h5 w hw
theorem zGS {own : String} {idx : Nat} {y : MethodName} {c0 : Cond} (h1 : Cond.methodLink own idx y ∈ zW) (h2 : Cond.static y ∈ zW) (h4 : Cond.initialized y.cls ∈ zW) (h5 : c0 ∈ zW) : GoodIn zW (va_wsS own idx y (c0 :: zW)) := fun w hw => by
  rcases List.mem_append.mp hw with hw | hw
  · simp only [List.mem_cons, List.not_mem_nil, or_false] at hw
    rcases hw with rfl | rfl | rfl
    · exact ⟨h1, zW_good h1⟩
    · exact ⟨h2, zW_good h2⟩
    · exact ⟨h4, zW_good h4⟩
  · exact zGood h5 w hw
/-- a nest mate's private method, by the two links that are there -/
def zNb (U : State) : Prop := va_Nw (.methodLinkNest RX0 30 yX5_hasBit RX5) U ∧ va_Nw (.methodLinkNest RX3 37 yX5_hasBit RX5) U
theorem zNb.warm {s U : State} (hW : s.WarmedH U.vm) (h : zNb s) : zNb U := ⟨va_Nw.warmM hW h.1, va_Nw.warmM hW h.2⟩
def zPre (D : va_G) (cy : Nat → ClassId) (L : List Nat) (K N : Nat → Nat) (F G : Nat → Nat → Nat) (I A : zH) (sz : Nat) (U : State) : Prop := U.heap.size = sz ∧ va_P D vwCl (va_pl L (zM cy K N F G I A)) U.heap ∧ va_K D vwCl (zTys cy) U ∧ zNb U
def zPost (D : va_G) (cy : Nat → ClassId) (L : List Nat) (K N : Nat → Nat) (F G : Nat → Nat → Nat) (I A : zH) (t : State) : Prop := va_P D vwCl (va_pl L (zM cy K N F G I A)) t.heap
theorem zPre.blind {D : va_G} {cy : Nat → ClassId} {L : List Nat} {K N : Nat → Nat} {F G : Nat → Nat → Nat} {I A : zH} {sz : Nat} {avs : List Value} : FrameBlind (va_Pc avs (zPre D cy L K N F G I A sz)) := fun a U g mk q => by
  obtain ⟨q0, q1, qP, qK, qN⟩ := q
  exact ⟨q0, q1, qP, va_K.moved (u := U) (U := U.calling g mk a) (Vm.Alike.refl U.vm) qK, qN⟩
/-! contracts: by the answer; the post is one state -/
def ZMi (l : Launch) (y : MethodName) (b : ByteArray) (n : Nat) (ret : Option FieldType) (rm : Room) (D : va_G) (cy : Nat → ClassId) (L : List Nat) (K N : Nat → Nat) (F G : Nat → Nat → Nat) (avs : List Value) (I A : zH) (r : Int32) (I' A' : zH) : Prop := ∀ sz : Nat, Met l y (.code y b n ret :: zW) rm (va_Pc avs (zPre D cy L K N F G I A sz)) (va_Qi (fun x (_ : Unit) => x = r) (fun _ t => zPost D cy L K N F G I' A' t) (zA L sz)) 0 0 (zA L sz)
def ZMl (l : Launch) (y : MethodName) (b : ByteArray) (n : Nat) (ret : Option FieldType) (rm : Room) (D : va_G) (cy : Nat → ClassId) (L : List Nat) (K N : Nat → Nat) (F G : Nat → Nat → Nat) (avs : List Value) (I A : zH) (r : Int64) (I' A' : zH) : Prop := ∀ sz : Nat, Met l y (.code y b n ret :: zW) rm (va_Pc avs (zPre D cy L K N F G I A sz)) (va_Ql (fun x (_ : Unit) => x = r) (fun _ t => zPost D cy L K N F G I' A' t) (zA L sz)) 0 0 (zA L sz)
def ZMv (l : Launch) (y : MethodName) (b : ByteArray) (n : Nat) (ret : Option FieldType) (rm : Room) (D : va_G) (cy : Nat → ClassId) (L : List Nat) (K N : Nat → Nat) (F G : Nat → Nat → Nat) (avs : List Value) (I A : zH) (I' A' : zH) : Prop := ∀ sz : Nat, Met l y (.code y b n ret :: zW) rm (va_Pc avs (zPre D cy L K N F G I A sz)) (va_Qv (fun _ : Unit => True) (fun _ t => zPost D cy L K N F G I' A' t) (zA L sz)) 0 0 (zA L sz)
/-! pure combinators, and what a good end says -/
def zck {β : Type} (c : Prop) [Decidable c] (x : Option β) : Option β := if c then x else none
theorem zck_e {β : Type} {c : Prop} [Decidable c] {x : Option β} {r : β} (h : zck c x = some r) : c ∧ x = some r := by
  unfold zck at h
  split at h
  · rename_i hc; exact ⟨hc, h⟩
  · cases h
theorem zif_t {β : Type} {c : Prop} [Decidable c] {x y r : β} (hc : c) (h : (if c then x else y) = r) : x = r := by rw [if_pos hc] at h; exact h
theorem zif_f {β : Type} {c : Prop} [Decidable c] {x y r : β} (hc : ¬ c) (h : (if c then x else y) = r) : y = r := by rw [if_neg hc] at h; exact h
theorem zno {β : Type} {r : β} {P : Prop} (h : (none : Option β) = some r) : P := by cases h
theorem zso {β : Type} {x r : β} (h : some x = some r) : x = r := Option.some.inj h
def zb {α β : Type} (o : Option α) (k : α → Option β) : Option β := match o with
  | none => none
  | some x => k x
theorem zb_e {α β : Type} {o : Option α} {k : α → Option β} {r : β} (h : zb o k = some r) : ∃ x, o = some x ∧ k x = some r := by
  cases o with
  | none => cases h
  | some x => exact ⟨x, rfl, h⟩
def zs {α β ρ : Type} (w : ρ → β) (o : Option (α ⊕ ρ)) (k : α → Option β) : Option β := match o with
  | none => none
  | some (.inl x) => k x
  | some (.inr q) => some (w q)
theorem zs_e {α β ρ : Type} {w : ρ → β} {o : Option (α ⊕ ρ)} {k : α → Option β} {r : β} (h : zs w o k = some r) : (∃ x, o = some (.inl x) ∧ k x = some r) ∨ ∃ q, o = some (.inr q) ∧ w q = r := by
  cases o with
  | none => cases h
  | some x =>
    cases x with
    | inl x => exact Or.inl ⟨x, rfl, h⟩
    | inr q => exact Or.inr ⟨q, rfl, Option.some.inj h⟩
/-- a loop: its body goes on (inl) or leaves (inr) -/
def zIt {σ ρ : Type} (B : σ → Option (σ ⊕ ρ)) : Nat → σ → Option ρ
  | 0, _ => none
  | n + 1, x => match B x with
    | none => none
    | some (.inl y) => zIt B n y
    | some (.inr r) => some r
theorem zIt_w {σ ρ : Type} {B : σ → Option (σ ⊕ ρ)} {P : σ → Prop} {X : ρ → Prop} (hb : ∀ x, (∀ y, B x = some (.inl y) → P y) → (∀ r, B x = some (.inr r) → X r) → B x ≠ none → P x) : ∀ (n : Nat) (x : σ) (r : ρ), zIt B n x = some r → X r → P x := by
  intro n
  induction n with
  | zero => intro x r h; cases h
  | succ n ih =>
    intro x r h hX
    unfold zIt at h
    refine hb x (fun y hy => ?_) (fun q hq => ?_) (fun hn => ?_)
    · rw [hy] at h; exact ih y r h hX
    · rw [hq] at h; cases h; exact hX
    · rw [hn] at h; cases h
def zb2 {α β γ : Type} (o : Option (α × β)) (k : α → β → Option γ) : Option γ := match o with
  | none => none
  | some x => k x.1 x.2
theorem zb2_e {α β γ : Type} {o : Option (α × β)} {k : α → β → Option γ} {r : γ} (h : zb2 o k = some r) : ∃ x y, o = some (x, y) ∧ k x y = some r := by
  cases o with
  | none => cases h
  | some x => exact ⟨x.1, x.2, rfl, h⟩
def zb3 {α β γ δ : Type} (o : Option (α × β × γ)) (k : α → β → γ → Option δ) : Option δ := match o with
  | none => none
  | some x => k x.1 x.2.1 x.2.2
theorem zb3_e {α β γ δ : Type} {o : Option (α × β × γ)} {k : α → β → γ → Option δ} {r : δ} (h : zb3 o k = some r) : ∃ x y z, o = some (x, y, z) ∧ k x y z = some r := by
  cases o with
  | none => cases h
  | some x => exact ⟨x.1, x.2.1, x.2.2, rfl, h⟩
def zb4 {α β γ δ ε : Type} (o : Option (α × β × γ × δ)) (k : α → β → γ → δ → Option ε) : Option ε := match o with
  | none => none
  | some x => k x.1 x.2.1 x.2.2.1 x.2.2.2
theorem zb4_e {α β γ δ ε : Type} {o : Option (α × β × γ × δ)} {k : α → β → γ → δ → Option ε} {r : ε} (h : zb4 o k = some r) : ∃ x y z u, o = some (x, y, z, u) ∧ k x y z u = some r := by
  cases o with
  | none => cases h
  | some x => exact ⟨x.1, x.2.1, x.2.2.1, x.2.2.2, rfl, h⟩
def zb5 {α β γ δ ε ζ : Type} (o : Option (α × β × γ × δ × ε)) (k : α → β → γ → δ → ε → Option ζ) : Option ζ := match o with
  | none => none
  | some x => k x.1 x.2.1 x.2.2.1 x.2.2.2.1 x.2.2.2.2
theorem zb5_e {α β γ δ ε ζ : Type} {o : Option (α × β × γ × δ × ε)} {k : α → β → γ → δ → ε → Option ζ} {r : ζ} (h : zb5 o k = some r) : ∃ x y z u v, o = some (x, y, z, u, v) ∧ k x y z u v = some r := by
  cases o with
  | none => cases h
  | some x => exact ⟨x.1, x.2.1, x.2.2.1, x.2.2.2.1, x.2.2.2.2, rfl, h⟩
def zlet {α β : Type} (x : α) (k : α → Option β) : Option β := k x
theorem zlet_e {α β : Type} {x : α} {k : α → Option β} {r : β} (h : zlet x k = some r) : ∃ y, y = x ∧ k y = some r := ⟨x, rfl, h⟩
theorem z_nb {v : Int32} (h : v = 0 ∨ v = 1) : narrow .boolean (.int v) = .int v := by rcases h with rfl | rfl <;> rfl
theorem z_fb {v : Int32} (h : v = 0 ∨ v = 1) : fits .boolean (.int v) = true := by rcases h with rfl | rfl <;> rfl
theorem zinX0 : ∀ w ∈ u_ws RX0 TX0 4, w ∈ zW := fun w h => by
  have h1 : (u_ws RX0 TX0 4).all (fun w => decide (w ∈ tables_1) && goodWord w) = true := by decide +kernel
  have h2 := List.all_eq_true.mp h1 w h
  simp only [Bool.and_eq_true, decide_eq_true_eq] at h2
  exact List.mem_filter.mpr ⟨List.mem_append_right _ h2.1, h2.2⟩
theorem zinX1 : ∀ w ∈ u_ws RX1 TX1 5, w ∈ zW := fun w h => by
  have h1 : (u_ws RX1 TX1 5).all (fun w => decide (w ∈ tables_1) && goodWord w) = true := by decide +kernel
  have h2 := List.all_eq_true.mp h1 w h
  simp only [Bool.and_eq_true, decide_eq_true_eq] at h2
  exact List.mem_filter.mpr ⟨List.mem_append_right _ h2.1, h2.2⟩
theorem zinX2 : ∀ w ∈ u_ws RX2 TX2 3, w ∈ zW := fun w h => by
  have h1 : (u_ws RX2 TX2 3).all (fun w => decide (w ∈ tables_1) && goodWord w) = true := by decide +kernel
  have h2 := List.all_eq_true.mp h1 w h
  simp only [Bool.and_eq_true, decide_eq_true_eq] at h2
  exact List.mem_filter.mpr ⟨List.mem_append_right _ h2.1, h2.2⟩
theorem zinX3 : ∀ w ∈ u_ws RX3 TX3 8, w ∈ zW := fun w h => by
  have h1 : (u_ws RX3 TX3 8).all (fun w => decide (w ∈ tables_1) && goodWord w) = true := by decide +kernel
  have h2 := List.all_eq_true.mp h1 w h
  simp only [Bool.and_eq_true, decide_eq_true_eq] at h2
  exact List.mem_filter.mpr ⟨List.mem_append_right _ h2.1, h2.2⟩
theorem zinX4 : ∀ w ∈ u_ws RX4 TX4 4, w ∈ zW := fun w h => by
  have h1 : (u_ws RX4 TX4 4).all (fun w => decide (w ∈ tables_1) && goodWord w) = true := by decide +kernel
  have h2 := List.all_eq_true.mp h1 w h
  simp only [Bool.and_eq_true, decide_eq_true_eq] at h2
  exact List.mem_filter.mpr ⟨List.mem_append_right _ h2.1, h2.2⟩
theorem zinX5 : ∀ w ∈ u_ws RX5 TX5 13, w ∈ zW := fun w h => by
  have h1 : (u_ws RX5 TX5 13).all (fun w => decide (w ∈ tables_1) && goodWord w) = true := by decide +kernel
  have h2 := List.all_eq_true.mp h1 w h
  simp only [Bool.and_eq_true, decide_eq_true_eq] at h2
  exact List.mem_filter.mpr ⟨List.mem_append_right _ h2.1, h2.2⟩
end
section
theorem z_upI (cy : Nat → ClassId) {K N : Nat → Nat} {F G : Nat → Nat → Nat} {I A : zH} {a ci k : Nat} {v : Int32} (hk : K a = ci) (h6 : ci < 6) (b : Nat) : va_up (zM cy K N F G I A) a (.inr (ci, zF ci F (up2 I a k v) a)) b = zM cy K N F G (up2 I a k v) A b := by
  by_cases hb : b = a
  · subst hb
    simp only [va_up, zM, hk, if_pos h6, if_true]
  · have h1 : ∀ c, zF c F (up2 I a k v) b = zF c F I b := by
      intro c
      have h2 : ∀ j, up2 I a k v b j = I b j := fun j => by simp only [up2, if_neg hb]
      unfold zF
      simp only [h2]
    simp only [va_up, if_neg hb, zM, h1]
theorem z_upA (cy : Nat → ClassId) {K N : Nat → Nat} {F G : Nat → Nat → Nat} {I A : zH} {a n k : Nat} {x : Int32} (hk : K a = 6) (hn : N a = n) (b : Nat) : va_up (zM cy K N F G I A) a (.inl (cy 6, n, .inl (upd (A a) k x))) b = zM cy K N F G I (up2 A a k x) b := by
  by_cases hb : b = a
  · subst hb
    have h2 : up2 A b k x b = upd (A b) k x := by funext j; simp only [up2, upd, if_true]
    simp [va_up, zM, hk, hn, h2]
  · have h2 : up2 A a k x b = A b := by funext j; simp only [up2, if_neg hb]
    simp only [va_up, if_neg hb, zM, h2]
theorem z_free {L : List Nat} {s : State} {H : Heap} {locs : List Loc} (hS : va_S (zA L s.heap.size) s.heap H locs) : ∀ q, zA L H.size q → zA L s.heap.size q := fun q h => h.elim Or.inl (fun h => Or.inr (Nat.le_trans hS.1 h))
theorem va_aldqA {p : Program} {l : Launch} {e : Env} {R : Room} {s : State} {m : MethodId} {args : Array Value} {below : List Frame} {meth : Method} {c : Code} {H : Heap} {locs : List Loc} {cells slots : Nat} {Q : State → Prop} {cc : ByteArray} {pc : Nat} {ls : Array Slot} {rest : List Value} {D : va_G} {cl : List vw_C} {ws : va_W} {tys : List (ClassId × FieldType)} {a : Nat} (hexec : p.tables.exec = Jvm.exec) (hb : c.code = cc) (hK : va_K D cl tys s) (hP : va_P D cl ws H) (q0 t0 : Nat) {cA : ClassId} {C : FieldType} {n : Nat} {f : Nat → Option Nat} (ha : ws[q0]? = some (a, .inl (cA, n, .inr (.inr (.inr (.inr f)))))) (ht : tys[t0]? = some (cA, .array C)) {i : Int32} (hin : vp_in i n) (hdg : decode cc pc = .ok (.aaload, 1)) (kk : W p l e R s m args below meth c H locs cells slots Q (F0 m (pc + 1) ls (va_rf (f i.toNatClampNeg) :: rest))) : W p l e R s m args below meth c H locs cells slots Q (F0 m pc ls (.int i :: .ref a :: rest)) := by
  have hlt : i.toNatClampNeg < n := Nat.not_le.mp fun q => hin (Or.inr q)
  exact W.aald (v := va_rf (f i.toNatClampNeg)) (ty := .array C) hexec hb (hP q0 _ ha) ((hK.2 t0 _ ht).1 n (fun j => va_rf (f j))) rfl (fun q => by cases q) (by show ¬ (i < 0 ∨ (arrV _ _ _).slots.size ≤ _); rw [arrV_size]; exact hin) (by show (arrV _ _ _).slots[_]? = _; rw [arrV_read _ _ hlt]) rfl rfl hdg kk
section ZK
variable {p : Program} {l : Launch} {e : Env} {R : Room} {s : State} {m : MethodId} {args : Array Value} {below : List Frame} {meth : Method} {c : Code} {cells slots : Nat} {Q : State → Prop}
variable {cc : ByteArray} {own : String} {nL : Nat} {D : va_G} {cy : Nat → ClassId} {L : List Nat} {K N : Nat → Nat} {F G : Nat → Nat → Nat}
variable {I A I' A' : zH} {pc : Nat} {lv lv' : List (Nat × Value)} {st : List Value}
/-- the machine at pc, over every heap that holds the state I, A and what E says beside it -/
def ZW (p : Program) (l : Launch) (e : Env) (R : Room) (s : State) (m : MethodId) (args : Array Value) (below : List Frame) (meth : Method) (c : Code) (nL : Nat) (D : va_G) (cy : Nat → ClassId) (L : List Nat) (K N : Nat → Nat) (F G : Nat → Nat → Nat) (cells slots : Nat) (Q : State → Prop) (I A : zH) (pc : Nat) (lv : List (Nat × Value)) (st : List Value) : Prop :=
  ∀ (H : Heap) (locs : List Loc) (ls : Array Slot), va_P D vwCl (va_pl L (zM cy K N F G I A)) H → va_S (zA L s.heap.size) s.heap H locs → lv_has ls nL lv → W p l e R s m args below meth c H locs cells slots Q (F0 m pc ls st)
/-- what stays for a whole body: the machine, the code, the words, the tables -/
def ZC (p : Program) (s : State) (m : MethodId) (args : Array Value) (meth : Method) (c : Code) (cc : ByteArray) (own : String) (nL : Nat) (D : va_G) (cy : Nat → ClassId) (L : List Nat) (K N : Nat → Nat) (F G : Nat → Nat → Nat) : Prop :=
  p.tables.exec = Jvm.exec ∧ c.code = cc ∧ c.maxLocals = nL ∧ (∀ w ∈ zW, w.before args s = true) ∧ s.vm.findClass own = some m.cls ∧ meth.locks = false ∧ va_K D vwCl (zTys cy) s ∧ ZL L K N F G ∧ zNb s
theorem ZC.x (C : ZC p s m args meth c cc own nL D cy L K N F G) : p.tables.exec = Jvm.exec := C.1
theorem ZC.b (C : ZC p s m args meth c cc own nL D cy L K N F G) : c.code = cc := C.2.1
theorem ZC.ml (C : ZC p s m args meth c cc own nL D cy L K N F G) : c.maxLocals = nL := C.2.2.1
theorem ZC.w (C : ZC p s m args meth c cc own nL D cy L K N F G) : ∀ w ∈ zW, w.before args s = true := C.2.2.2.1
theorem ZC.o (C : ZC p s m args meth c cc own nL D cy L K N F G) : s.vm.findClass own = some m.cls := C.2.2.2.2.1
theorem ZC.lk (C : ZC p s m args meth c cc own nL D cy L K N F G) : meth.locks = false := C.2.2.2.2.2.1
theorem ZC.k (C : ZC p s m args meth c cc own nL D cy L K N F G) : va_K D vwCl (zTys cy) s := C.2.2.2.2.2.2.1
theorem ZC.z (C : ZC p s m args meth c cc own nL D cy L K N F G) : ZL L K N F G := C.2.2.2.2.2.2.2.1
theorem ZC.nb (C : ZC p s m args meth c cc own nL D cy L K N F G) : zNb s := C.2.2.2.2.2.2.2.2
theorem ZC.d (C : ZC p s m args meth c cc own nL D cy L K N F G) (f : Nat → va_E) : va_D (zA L s.heap.size) (va_pl L f) := z_D C.z.2.1 _ f
theorem zr_iconst (C : ZC p s m args meth c cc own nL D cy L K N F G) {n : Int} {v : Int32} (hv : Int32.ofInt n = v) (hd : decode cc pc = .ok (.iconst n, 1)) (kk : ZW p l e R s m args below meth c nL D cy L K N F G cells slots Q I A (pc + 1) lv (.int v :: st)) : ZW p l e R s m args below meth c nL D cy L K N F G cells slots Q I A pc lv st := by
  intro H locs ls hP hS hl
  exact lv_iconst C.x C.b hd hv (kk H locs ls hP hS hl)
theorem zr_bipush (C : ZC p s m args meth c cc own nL D cy L K N F G) {n : Int} {v : Int32} (hv : (Int8.ofInt n).toInt32 = v) (hd : decode cc pc = .ok (.bipush n, 2)) (kk : ZW p l e R s m args below meth c nL D cy L K N F G cells slots Q I A (pc + 2) lv (.int v :: st)) : ZW p l e R s m args below meth c nL D cy L K N F G cells slots Q I A pc lv st := by
  intro H locs ls hP hS hl
  exact lv_bipush C.x C.b hd hv (kk H locs ls hP hS hl)
theorem zr_ldc (C : ZC p s m args meth c cc own nL D cy L K N F G) {index : Nat} {v : Int32} (hc : Cond.constant own index v ∈ zW) (hd : decode cc pc = .ok (.ldc index, 2)) (kk : ZW p l e R s m args below meth c nL D cy L K N F G cells slots Q I A (pc + 2) lv (.int v :: st)) : ZW p l e R s m args below meth c nL D cy L K N F G cells slots Q I A pc lv st := by
  intro H locs ls hP hS hl
  exact lv_ldc C.x C.b C.o (C.w _ hc) hd (kk H locs ls hP hS hl)
theorem zr_ldcw (C : ZC p s m args meth c cc own nL D cy L K N F G) {index : Nat} {v : Int32} (hc : Cond.constant own index v ∈ zW) (hd : decode cc pc = .ok (.ldc_w index, 3)) (kk : ZW p l e R s m args below meth c nL D cy L K N F G cells slots Q I A (pc + 3) lv (.int v :: st)) : ZW p l e R s m args below meth c nL D cy L K N F G cells slots Q I A pc lv st := by
  intro H locs ls hP hS hl
  exact lv_ldcw C.x C.b C.o (C.w _ hc) hd (kk H locs ls hP hS hl)
theorem zr_ldc2 (C : ZC p s m args meth c cc own nL D cy L K N F G) {index : Nat} {v : Int64} (hc : Cond.constantLong own index v ∈ zW) (hd : decode cc pc = .ok (.ldc2_w index, 3)) (kk : ZW p l e R s m args below meth c nL D cy L K N F G cells slots Q I A (pc + 3) lv (.long v :: st)) : ZW p l e R s m args below meth c nL D cy L K N F G cells slots Q I A pc lv st := by
  intro H locs ls hP hS hl
  exact lv_ldc2 C.x C.b C.o (C.w _ hc) hd (kk H locs ls hP hS hl)
theorem zr_iload (C : ZC p s m args meth c cc own nL D cy L K N F G) {i : Nat} {x : Int32} (k : Nat) (hk : lv[k]? = some (i, .int x)) (hd : decode cc pc = .ok (.iload i, 2)) (kk : ZW p l e R s m args below meth c nL D cy L K N F G cells slots Q I A (pc + 2) lv (.int x :: st)) : ZW p l e R s m args below meth c nL D cy L K N F G cells slots Q I A pc lv st := by
  intro H locs ls hP hS hl
  exact lv_iload C.x C.b hd (lv_at hl k hk) (kk H locs ls hP hS hl)
theorem zr_iload_n (C : ZC p s m args meth c cc own nL D cy L K N F G) {j : Fin 4} {i : Nat} {x : Int32} (k : Nat) (hi : (j : Nat) = i) (hk : lv[k]? = some (i, .int x)) (hd : decode cc pc = .ok (.iload_n j, 1)) (kk : ZW p l e R s m args below meth c nL D cy L K N F G cells slots Q I A (pc + 1) lv (.int x :: st)) : ZW p l e R s m args below meth c nL D cy L K N F G cells slots Q I A pc lv st := by
  intro H locs ls hP hS hl
  exact lv_iload_n C.x C.b hd hi (lv_at hl k hk) (kk H locs ls hP hS hl)
theorem zr_istore (C : ZC p s m args meth c cc own nL D cy L K N F G) {i : Nat} {x : Int32} (hn : i < nL) (hl' : (i, Value.int x) :: lv.filter (fun q => !(q.1 == i) && !(q.1 + 1 == i && q.2.category == 2)) = lv') (hd : decode cc pc = .ok (.istore i, 2)) (kk : ZW p l e R s m args below meth c nL D cy L K N F G cells slots Q I A (pc + 2) lv' st) : ZW p l e R s m args below meth c nL D cy L K N F G cells slots Q I A pc lv (.int x :: st) := by
  intro H locs ls hP hS hl
  exact lv_istore C.x C.b hd hl hn hl' (fun ls2 hl2 => kk H locs ls2 hP hS hl2)
theorem zr_istore_n (C : ZC p s m args meth c cc own nL D cy L K N F G) {j : Fin 4} {i : Nat} {x : Int32} (hi : (j : Nat) = i) (hn : i < nL) (hl' : (i, Value.int x) :: lv.filter (fun q => !(q.1 == i) && !(q.1 + 1 == i && q.2.category == 2)) = lv') (hd : decode cc pc = .ok (.istore_n j, 1)) (kk : ZW p l e R s m args below meth c nL D cy L K N F G cells slots Q I A (pc + 1) lv' st) : ZW p l e R s m args below meth c nL D cy L K N F G cells slots Q I A pc lv (.int x :: st) := by
  intro H locs ls hP hS hl
  exact lv_istore_n C.x C.b hd hi hl hn hl' (fun ls2 hl2 => kk H locs ls2 hP hS hl2)
theorem zr_aload (C : ZC p s m args meth c cc own nL D cy L K N F G) {i : Nat} {x : Nat} (k : Nat) (hk : lv[k]? = some (i, .ref x)) (hd : decode cc pc = .ok (.aload i, 2)) (kk : ZW p l e R s m args below meth c nL D cy L K N F G cells slots Q I A (pc + 2) lv (.ref x :: st)) : ZW p l e R s m args below meth c nL D cy L K N F G cells slots Q I A pc lv st := by
  intro H locs ls hP hS hl
  exact lv_aload C.x C.b hd (lv_at hl k hk) (kk H locs ls hP hS hl)
theorem zr_aload_n (C : ZC p s m args meth c cc own nL D cy L K N F G) {j : Fin 4} {i : Nat} {x : Nat} (k : Nat) (hi : (j : Nat) = i) (hk : lv[k]? = some (i, .ref x)) (hd : decode cc pc = .ok (.aload_n j, 1)) (kk : ZW p l e R s m args below meth c nL D cy L K N F G cells slots Q I A (pc + 1) lv (.ref x :: st)) : ZW p l e R s m args below meth c nL D cy L K N F G cells slots Q I A pc lv st := by
  intro H locs ls hP hS hl
  exact lv_aload_n C.x C.b hd hi (lv_at hl k hk) (kk H locs ls hP hS hl)
theorem zr_astore (C : ZC p s m args meth c cc own nL D cy L K N F G) {i : Nat} {x : Nat} (hn : i < nL) (hl' : (i, Value.ref x) :: lv.filter (fun q => !(q.1 == i) && !(q.1 + 1 == i && q.2.category == 2)) = lv') (hd : decode cc pc = .ok (.astore i, 2)) (kk : ZW p l e R s m args below meth c nL D cy L K N F G cells slots Q I A (pc + 2) lv' st) : ZW p l e R s m args below meth c nL D cy L K N F G cells slots Q I A pc lv (.ref x :: st) := by
  intro H locs ls hP hS hl
  exact lv_astore C.x C.b hd hl hn hl' (fun ls2 hl2 => kk H locs ls2 hP hS hl2)
theorem zr_astore_n (C : ZC p s m args meth c cc own nL D cy L K N F G) {j : Fin 4} {i : Nat} {x : Nat} (hi : (j : Nat) = i) (hn : i < nL) (hl' : (i, Value.ref x) :: lv.filter (fun q => !(q.1 == i) && !(q.1 + 1 == i && q.2.category == 2)) = lv') (hd : decode cc pc = .ok (.astore_n j, 1)) (kk : ZW p l e R s m args below meth c nL D cy L K N F G cells slots Q I A (pc + 1) lv' st) : ZW p l e R s m args below meth c nL D cy L K N F G cells slots Q I A pc lv (.ref x :: st) := by
  intro H locs ls hP hS hl
  exact lv_astore_n C.x C.b hd hi hl hn hl' (fun ls2 hl2 => kk H locs ls2 hP hS hl2)
theorem zr_lload (C : ZC p s m args meth c cc own nL D cy L K N F G) {i : Nat} {x : Int64} (k : Nat) (hk : lv[k]? = some (i, .long x)) (hd : decode cc pc = .ok (.lload i, 2)) (kk : ZW p l e R s m args below meth c nL D cy L K N F G cells slots Q I A (pc + 2) lv (.long x :: st)) : ZW p l e R s m args below meth c nL D cy L K N F G cells slots Q I A pc lv st := by
  intro H locs ls hP hS hl
  exact lv_lload C.x C.b hd (lv_at hl k hk) (kk H locs ls hP hS hl)
theorem zr_lload_n (C : ZC p s m args meth c cc own nL D cy L K N F G) {j : Fin 4} {i : Nat} {x : Int64} (k : Nat) (hi : (j : Nat) = i) (hk : lv[k]? = some (i, .long x)) (hd : decode cc pc = .ok (.lload_n j, 1)) (kk : ZW p l e R s m args below meth c nL D cy L K N F G cells slots Q I A (pc + 1) lv (.long x :: st)) : ZW p l e R s m args below meth c nL D cy L K N F G cells slots Q I A pc lv st := by
  intro H locs ls hP hS hl
  exact lv_lload_n C.x C.b hd hi (lv_at hl k hk) (kk H locs ls hP hS hl)
theorem zr_lstore (C : ZC p s m args meth c cc own nL D cy L K N F G) {i : Nat} {x : Int64} (hn : i + 1 < nL) (hl' : (i, Value.long x) :: lv.filter (fun q => !(q.1 == i) && (!(q.1 == i + 1) && !(q.1 + 1 == i && q.2.category == 2))) = lv') (hd : decode cc pc = .ok (.lstore i, 2)) (kk : ZW p l e R s m args below meth c nL D cy L K N F G cells slots Q I A (pc + 2) lv' st) : ZW p l e R s m args below meth c nL D cy L K N F G cells slots Q I A pc lv (.long x :: st) := by
  intro H locs ls hP hS hl
  exact lv_lstore C.x C.b hd hl hn hl' (fun ls2 hl2 => kk H locs ls2 hP hS hl2)
theorem zr_lstore_n (C : ZC p s m args meth c cc own nL D cy L K N F G) {j : Fin 4} {i : Nat} {x : Int64} (hi : (j : Nat) = i) (hn : i + 1 < nL) (hl' : (i, Value.long x) :: lv.filter (fun q => !(q.1 == i) && (!(q.1 == i + 1) && !(q.1 + 1 == i && q.2.category == 2))) = lv') (hd : decode cc pc = .ok (.lstore_n j, 1)) (kk : ZW p l e R s m args below meth c nL D cy L K N F G cells slots Q I A (pc + 1) lv' st) : ZW p l e R s m args below meth c nL D cy L K N F G cells slots Q I A pc lv (.long x :: st) := by
  intro H locs ls hP hS hl
  exact lv_lstore_n C.x C.b hd hi hl hn hl' (fun ls2 hl2 => kk H locs ls2 hP hS hl2)
theorem zr_iinc (C : ZC p s m args meth c cc own nL D cy L K N F G) {i : Nat} {n : Int} {x v : Int32} (k : Nat) (hk : lv[k]? = some (i, .int x)) (hv : x + Int32.ofInt n = v) (hn : i < nL) (hl' : (i, Value.int v) :: lv.filter (fun q => !(q.1 == i) && !(q.1 + 1 == i && q.2.category == 2)) = lv') (hd : decode cc pc = .ok (.iinc i n, 3)) (kk : ZW p l e R s m args below meth c nL D cy L K N F G cells slots Q I A (pc + 3) lv' st) : ZW p l e R s m args below meth c nL D cy L K N F G cells slots Q I A pc lv st := by
  intro H locs ls hP hS hl
  exact lv_iinc C.x C.b hd hl hk hv hn hl' (fun ls2 hl2 => kk H locs ls2 hP hS hl2)
theorem zr_lv (C : ZC p s m args meth c cc own nL D cy L K N F G) (ks : List Nat) (hl' : lv_pick lv ks = lv') (kk : ZW p l e R s m args below meth c nL D cy L K N F G cells slots Q I A pc lv' st) : ZW p l e R s m args below meth c nL D cy L K N F G cells slots Q I A pc lv st := by
  intro H locs ls hP hS hl
  exact kk H locs ls hP hS (lv_sub hl ks hl')
theorem zr_iadd (C : ZC p s m args meth c cc own nL D cy L K N F G) {x y : Int32} (hd : decode cc pc = .ok (.iadd, 1)) (kk : ZW p l e R s m args below meth c nL D cy L K N F G cells slots Q I A (pc + 1) lv (.int (x + y) :: st)) : ZW p l e R s m args below meth c nL D cy L K N F G cells slots Q I A pc lv (.int y :: .int x :: st) := by
  intro H locs ls hP hS hl
  exact lv_iadd C.x C.b hd (kk H locs ls hP hS hl)
theorem zr_isub (C : ZC p s m args meth c cc own nL D cy L K N F G) {x y : Int32} (hd : decode cc pc = .ok (.isub, 1)) (kk : ZW p l e R s m args below meth c nL D cy L K N F G cells slots Q I A (pc + 1) lv (.int (x - y) :: st)) : ZW p l e R s m args below meth c nL D cy L K N F G cells slots Q I A pc lv (.int y :: .int x :: st) := by
  intro H locs ls hP hS hl
  exact lv_isub C.x C.b hd (kk H locs ls hP hS hl)
theorem zr_imul (C : ZC p s m args meth c cc own nL D cy L K N F G) {x y : Int32} (hd : decode cc pc = .ok (.imul, 1)) (kk : ZW p l e R s m args below meth c nL D cy L K N F G cells slots Q I A (pc + 1) lv (.int (x * y) :: st)) : ZW p l e R s m args below meth c nL D cy L K N F G cells slots Q I A pc lv (.int y :: .int x :: st) := by
  intro H locs ls hP hS hl
  exact lv_imul C.x C.b hd (kk H locs ls hP hS hl)
theorem zr_iand (C : ZC p s m args meth c cc own nL D cy L K N F G) {x y : Int32} (hd : decode cc pc = .ok (.iand, 1)) (kk : ZW p l e R s m args below meth c nL D cy L K N F G cells slots Q I A (pc + 1) lv (.int (x &&& y) :: st)) : ZW p l e R s m args below meth c nL D cy L K N F G cells slots Q I A pc lv (.int y :: .int x :: st) := by
  intro H locs ls hP hS hl
  exact lv_iand C.x C.b hd (kk H locs ls hP hS hl)
theorem zr_ior (C : ZC p s m args meth c cc own nL D cy L K N F G) {x y : Int32} (hd : decode cc pc = .ok (.ior, 1)) (kk : ZW p l e R s m args below meth c nL D cy L K N F G cells slots Q I A (pc + 1) lv (.int (x ||| y) :: st)) : ZW p l e R s m args below meth c nL D cy L K N F G cells slots Q I A pc lv (.int y :: .int x :: st) := by
  intro H locs ls hP hS hl
  exact lv_ior C.x C.b hd (kk H locs ls hP hS hl)
theorem zr_ixor (C : ZC p s m args meth c cc own nL D cy L K N F G) {x y : Int32} (hd : decode cc pc = .ok (.ixor, 1)) (kk : ZW p l e R s m args below meth c nL D cy L K N F G cells slots Q I A (pc + 1) lv (.int (x ^^^ y) :: st)) : ZW p l e R s m args below meth c nL D cy L K N F G cells slots Q I A pc lv (.int y :: .int x :: st) := by
  intro H locs ls hP hS hl
  exact lv_ixor C.x C.b hd (kk H locs ls hP hS hl)
theorem zr_ishl (C : ZC p s m args meth c cc own nL D cy L K N F G) {x y : Int32} (hd : decode cc pc = .ok (.ishl, 1)) (kk : ZW p l e R s m args below meth c nL D cy L K N F G cells slots Q I A (pc + 1) lv (.int (x <<< (y &&& 31)) :: st)) : ZW p l e R s m args below meth c nL D cy L K N F G cells slots Q I A pc lv (.int y :: .int x :: st) := by
  intro H locs ls hP hS hl
  exact lv_ishl C.x C.b hd (kk H locs ls hP hS hl)
theorem zr_ishr (C : ZC p s m args meth c cc own nL D cy L K N F G) {x y : Int32} (hd : decode cc pc = .ok (.ishr, 1)) (kk : ZW p l e R s m args below meth c nL D cy L K N F G cells slots Q I A (pc + 1) lv (.int (x >>> (y &&& 31)) :: st)) : ZW p l e R s m args below meth c nL D cy L K N F G cells slots Q I A pc lv (.int y :: .int x :: st) := by
  intro H locs ls hP hS hl
  exact lv_ishr C.x C.b hd (kk H locs ls hP hS hl)
theorem zr_idiv (C : ZC p s m args meth c cc own nL D cy L K N F G) {x y : Int32} (h0 : ¬ y = 0) (hd : decode cc pc = .ok (.idiv, 1)) (kk : ZW p l e R s m args below meth c nL D cy L K N F G cells slots Q I A (pc + 1) lv (.int (x / y) :: st)) : ZW p l e R s m args below meth c nL D cy L K N F G cells slots Q I A pc lv (.int y :: .int x :: st) := by
  intro H locs ls hP hS hl
  exact lv_idiv C.x C.b hd h0 (kk H locs ls hP hS hl)
theorem zr_irem (C : ZC p s m args meth c cc own nL D cy L K N F G) {x y : Int32} (h0 : ¬ y = 0) (hd : decode cc pc = .ok (.irem, 1)) (kk : ZW p l e R s m args below meth c nL D cy L K N F G cells slots Q I A (pc + 1) lv (.int (x - x / y * y) :: st)) : ZW p l e R s m args below meth c nL D cy L K N F G cells slots Q I A pc lv (.int y :: .int x :: st) := by
  intro H locs ls hP hS hl
  exact lv_irem C.x C.b hd h0 (kk H locs ls hP hS hl)
theorem zr_iushr (C : ZC p s m args meth c cc own nL D cy L K N F G) {x y : Int32} (hd : decode cc pc = .ok (.iushr, 1)) (kk : ZW p l e R s m args below meth c nL D cy L K N F G cells slots Q I A (pc + 1) lv (.int (x.toUInt32 >>> (y.toUInt32 &&& Int32.toUInt32 31)).toInt32 :: st)) : ZW p l e R s m args below meth c nL D cy L K N F G cells slots Q I A pc lv (.int y :: .int x :: st) := by
  intro H locs ls hP hS hl
  exact lv_iushr C.x C.b hd rfl (kk H locs ls hP hS hl)
theorem zr_i2l (C : ZC p s m args meth c cc own nL D cy L K N F G) {x : Int32} (hd : decode cc pc = .ok (.i2l, 1)) (kk : ZW p l e R s m args below meth c nL D cy L K N F G cells slots Q I A (pc + 1) lv (.long x.toInt64 :: st)) : ZW p l e R s m args below meth c nL D cy L K N F G cells slots Q I A pc lv (.int x :: st) := by
  intro H locs ls hP hS hl
  exact lv_i2l C.x C.b hd rfl (kk H locs ls hP hS hl)
theorem zr_lmul (C : ZC p s m args meth c cc own nL D cy L K N F G) {x y : Int64} (hd : decode cc pc = .ok (.lmul, 1)) (kk : ZW p l e R s m args below meth c nL D cy L K N F G cells slots Q I A (pc + 1) lv (.long (x * y) :: st)) : ZW p l e R s m args below meth c nL D cy L K N F G cells slots Q I A pc lv (.long y :: .long x :: st) := by
  intro H locs ls hP hS hl
  exact lv_lmul C.x C.b hd (kk H locs ls hP hS hl)
theorem zr_ladd (C : ZC p s m args meth c cc own nL D cy L K N F G) {x y : Int64} (hd : decode cc pc = .ok (.ladd, 1)) (kk : ZW p l e R s m args below meth c nL D cy L K N F G cells slots Q I A (pc + 1) lv (.long (x + y) :: st)) : ZW p l e R s m args below meth c nL D cy L K N F G cells slots Q I A pc lv (.long y :: .long x :: st) := by
  intro H locs ls hP hS hl
  exact lv_ladd C.x C.b hd (kk H locs ls hP hS hl)
theorem zr_lcmp (C : ZC p s m args meth c cc own nL D cy L K N F G) {x y : Int64} (hd : decode cc pc = .ok (.lcmp, 1)) (kk : ZW p l e R s m args below meth c nL D cy L K N F G cells slots Q I A (pc + 1) lv (.int (lg_cmp x y) :: st)) : ZW p l e R s m args below meth c nL D cy L K N F G cells slots Q I A pc lv (.long y :: .long x :: st) := by
  intro H locs ls hP hS hl
  exact W.lcmp C.x C.b hd (kk H locs ls hP hS hl)
theorem zr_dup (C : ZC p s m args meth c cc own nL D cy L K N F G) {va : Value} (hva : va.category = 1) (hd : decode cc pc = .ok (.dup, 1)) (kk : ZW p l e R s m args below meth c nL D cy L K N F G cells slots Q I A (pc + 1) lv (va :: va :: st)) : ZW p l e R s m args below meth c nL D cy L K N F G cells slots Q I A pc lv (va :: st) := by
  intro H locs ls hP hS hl
  exact lv_dup C.x C.b hd hva (kk H locs ls hP hS hl)
theorem zr_pop (C : ZC p s m args meth c cc own nL D cy L K N F G) {va : Value} (hva : va.category = 1) (hd : decode cc pc = .ok (.pop, 1)) (kk : ZW p l e R s m args below meth c nL D cy L K N F G cells slots Q I A (pc + 1) lv st) : ZW p l e R s m args below meth c nL D cy L K N F G cells slots Q I A pc lv (va :: st) := by
  intro H locs ls hP hS hl
  exact lv_pop C.x C.b hd hva (kk H locs ls hP hS hl)
theorem zr_dup2 (C : ZC p s m args meth c cc own nL D cy L K N F G) {va vb : Value} (hva : va.category = 1) (hvb : vb.category = 1) (hd : decode cc pc = .ok (.dup2, 1)) (kk : ZW p l e R s m args below meth c nL D cy L K N F G cells slots Q I A (pc + 1) lv (va :: vb :: va :: vb :: st)) : ZW p l e R s m args below meth c nL D cy L K N F G cells slots Q I A pc lv (va :: vb :: st) := by
  intro H locs ls hP hS hl
  exact lv_dup2_11 C.x C.b hd hva hvb (kk H locs ls hP hS hl)
theorem zr_top (C : ZC p s m args meth c cc own nL D cy L K N F G) {x y : Int32} (h : x = y) (kk : ZW p l e R s m args below meth c nL D cy L K N F G cells slots Q I A pc lv (.int y :: st)) : ZW p l e R s m args below meth c nL D cy L K N F G cells slots Q I A pc lv (.int x :: st) := by
  subst h
  exact kk
theorem zr_topl (C : ZC p s m args meth c cc own nL D cy L K N F G) {x y : Int64} (h : x = y) (kk : ZW p l e R s m args below meth c nL D cy L K N F G cells slots Q I A pc lv (.long y :: st)) : ZW p l e R s m args below meth c nL D cy L K N F G cells slots Q I A pc lv (.long x :: st) := by
  subst h
  exact kk
theorem zr_if_eq (C : ZC p s m args meth c cc own nL D cy L K N F G) {x : Int32} {off : Int} {tgt : Nat} (ht : (pc : Int) + off = (tgt : Int)) (hd : decode cc pc = .ok (.ifCond .eq off, 3)) (kt : x = 0 → ZW p l e R s m args below meth c nL D cy L K N F G cells slots Q I A tgt lv st) (kf : ¬ x = 0 → ZW p l e R s m args below meth c nL D cy L K N F G cells slots Q I A (pc + 3) lv st) : ZW p l e R s m args below meth c nL D cy L K N F G cells slots Q I A pc lv (.int x :: st) := by
  intro H locs ls hP hS hl
  exact lv_if_eq C.x C.b hd ht (fun h => kt h H locs ls hP hS hl) (fun h => kf h H locs ls hP hS hl)
theorem zr_if_ne (C : ZC p s m args meth c cc own nL D cy L K N F G) {x : Int32} {off : Int} {tgt : Nat} (ht : (pc : Int) + off = (tgt : Int)) (hd : decode cc pc = .ok (.ifCond .ne off, 3)) (kt : ¬ x = 0 → ZW p l e R s m args below meth c nL D cy L K N F G cells slots Q I A tgt lv st) (kf : x = 0 → ZW p l e R s m args below meth c nL D cy L K N F G cells slots Q I A (pc + 3) lv st) : ZW p l e R s m args below meth c nL D cy L K N F G cells slots Q I A pc lv (.int x :: st) := by
  intro H locs ls hP hS hl
  exact lv_if_ne C.x C.b hd ht (fun h => kt h H locs ls hP hS hl) (fun h => kf h H locs ls hP hS hl)
theorem zr_if_lt (C : ZC p s m args meth c cc own nL D cy L K N F G) {x : Int32} {off : Int} {tgt : Nat} (ht : (pc : Int) + off = (tgt : Int)) (hd : decode cc pc = .ok (.ifCond .lt off, 3)) (kt : x < 0 → ZW p l e R s m args below meth c nL D cy L K N F G cells slots Q I A tgt lv st) (kf : ¬ x < 0 → ZW p l e R s m args below meth c nL D cy L K N F G cells slots Q I A (pc + 3) lv st) : ZW p l e R s m args below meth c nL D cy L K N F G cells slots Q I A pc lv (.int x :: st) := by
  intro H locs ls hP hS hl
  exact lv_if_lt C.x C.b hd ht (fun h => kt h H locs ls hP hS hl) (fun h => kf h H locs ls hP hS hl)
theorem zr_if_ge (C : ZC p s m args meth c cc own nL D cy L K N F G) {x : Int32} {off : Int} {tgt : Nat} (ht : (pc : Int) + off = (tgt : Int)) (hd : decode cc pc = .ok (.ifCond .ge off, 3)) (kt : 0 ≤ x → ZW p l e R s m args below meth c nL D cy L K N F G cells slots Q I A tgt lv st) (kf : ¬ 0 ≤ x → ZW p l e R s m args below meth c nL D cy L K N F G cells slots Q I A (pc + 3) lv st) : ZW p l e R s m args below meth c nL D cy L K N F G cells slots Q I A pc lv (.int x :: st) := by
  intro H locs ls hP hS hl
  exact lv_if_ge C.x C.b hd ht (fun h => kt h H locs ls hP hS hl) (fun h => kf h H locs ls hP hS hl)
theorem zr_if_gt (C : ZC p s m args meth c cc own nL D cy L K N F G) {x : Int32} {off : Int} {tgt : Nat} (ht : (pc : Int) + off = (tgt : Int)) (hd : decode cc pc = .ok (.ifCond .gt off, 3)) (kt : 0 < x → ZW p l e R s m args below meth c nL D cy L K N F G cells slots Q I A tgt lv st) (kf : ¬ 0 < x → ZW p l e R s m args below meth c nL D cy L K N F G cells slots Q I A (pc + 3) lv st) : ZW p l e R s m args below meth c nL D cy L K N F G cells slots Q I A pc lv (.int x :: st) := by
  intro H locs ls hP hS hl
  exact lv_if_gt C.x C.b hd ht (fun h => kt h H locs ls hP hS hl) (fun h => kf h H locs ls hP hS hl)
theorem zr_if_le (C : ZC p s m args meth c cc own nL D cy L K N F G) {x : Int32} {off : Int} {tgt : Nat} (ht : (pc : Int) + off = (tgt : Int)) (hd : decode cc pc = .ok (.ifCond .le off, 3)) (kt : x ≤ 0 → ZW p l e R s m args below meth c nL D cy L K N F G cells slots Q I A tgt lv st) (kf : ¬ x ≤ 0 → ZW p l e R s m args below meth c nL D cy L K N F G cells slots Q I A (pc + 3) lv st) : ZW p l e R s m args below meth c nL D cy L K N F G cells slots Q I A pc lv (.int x :: st) := by
  intro H locs ls hP hS hl
  exact lv_if_le C.x C.b hd ht (fun h => kt h H locs ls hP hS hl) (fun h => kf h H locs ls hP hS hl)
theorem zr_icmp_eq (C : ZC p s m args meth c cc own nL D cy L K N F G) {x y : Int32} {off : Int} {tgt : Nat} (ht : (pc : Int) + off = (tgt : Int)) (hd : decode cc pc = .ok (.if_icmp .eq off, 3)) (kt : x = y → ZW p l e R s m args below meth c nL D cy L K N F G cells slots Q I A tgt lv st) (kf : ¬ x = y → ZW p l e R s m args below meth c nL D cy L K N F G cells slots Q I A (pc + 3) lv st) : ZW p l e R s m args below meth c nL D cy L K N F G cells slots Q I A pc lv (.int y :: .int x :: st) := by
  intro H locs ls hP hS hl
  exact lv_icmp_eq C.x C.b hd ht (fun h => kt h H locs ls hP hS hl) (fun h => kf h H locs ls hP hS hl)
theorem zr_icmp_ne (C : ZC p s m args meth c cc own nL D cy L K N F G) {x y : Int32} {off : Int} {tgt : Nat} (ht : (pc : Int) + off = (tgt : Int)) (hd : decode cc pc = .ok (.if_icmp .ne off, 3)) (kt : ¬ x = y → ZW p l e R s m args below meth c nL D cy L K N F G cells slots Q I A tgt lv st) (kf : x = y → ZW p l e R s m args below meth c nL D cy L K N F G cells slots Q I A (pc + 3) lv st) : ZW p l e R s m args below meth c nL D cy L K N F G cells slots Q I A pc lv (.int y :: .int x :: st) := by
  intro H locs ls hP hS hl
  exact lv_icmp_ne C.x C.b hd ht (fun h => kt h H locs ls hP hS hl) (fun h => kf h H locs ls hP hS hl)
theorem zr_icmp_lt (C : ZC p s m args meth c cc own nL D cy L K N F G) {x y : Int32} {off : Int} {tgt : Nat} (ht : (pc : Int) + off = (tgt : Int)) (hd : decode cc pc = .ok (.if_icmp .lt off, 3)) (kt : x < y → ZW p l e R s m args below meth c nL D cy L K N F G cells slots Q I A tgt lv st) (kf : ¬ x < y → ZW p l e R s m args below meth c nL D cy L K N F G cells slots Q I A (pc + 3) lv st) : ZW p l e R s m args below meth c nL D cy L K N F G cells slots Q I A pc lv (.int y :: .int x :: st) := by
  intro H locs ls hP hS hl
  exact lv_icmp_lt C.x C.b hd ht (fun h => kt h H locs ls hP hS hl) (fun h => kf h H locs ls hP hS hl)
theorem zr_icmp_ge (C : ZC p s m args meth c cc own nL D cy L K N F G) {x y : Int32} {off : Int} {tgt : Nat} (ht : (pc : Int) + off = (tgt : Int)) (hd : decode cc pc = .ok (.if_icmp .ge off, 3)) (kt : y ≤ x → ZW p l e R s m args below meth c nL D cy L K N F G cells slots Q I A tgt lv st) (kf : ¬ y ≤ x → ZW p l e R s m args below meth c nL D cy L K N F G cells slots Q I A (pc + 3) lv st) : ZW p l e R s m args below meth c nL D cy L K N F G cells slots Q I A pc lv (.int y :: .int x :: st) := by
  intro H locs ls hP hS hl
  exact lv_icmp_ge C.x C.b hd ht (fun h => kt h H locs ls hP hS hl) (fun h => kf h H locs ls hP hS hl)
theorem zr_icmp_gt (C : ZC p s m args meth c cc own nL D cy L K N F G) {x y : Int32} {off : Int} {tgt : Nat} (ht : (pc : Int) + off = (tgt : Int)) (hd : decode cc pc = .ok (.if_icmp .gt off, 3)) (kt : y < x → ZW p l e R s m args below meth c nL D cy L K N F G cells slots Q I A tgt lv st) (kf : ¬ y < x → ZW p l e R s m args below meth c nL D cy L K N F G cells slots Q I A (pc + 3) lv st) : ZW p l e R s m args below meth c nL D cy L K N F G cells slots Q I A pc lv (.int y :: .int x :: st) := by
  intro H locs ls hP hS hl
  exact lv_icmp_gt C.x C.b hd ht (fun h => kt h H locs ls hP hS hl) (fun h => kf h H locs ls hP hS hl)
theorem zr_icmp_le (C : ZC p s m args meth c cc own nL D cy L K N F G) {x y : Int32} {off : Int} {tgt : Nat} (ht : (pc : Int) + off = (tgt : Int)) (hd : decode cc pc = .ok (.if_icmp .le off, 3)) (kt : x ≤ y → ZW p l e R s m args below meth c nL D cy L K N F G cells slots Q I A tgt lv st) (kf : ¬ x ≤ y → ZW p l e R s m args below meth c nL D cy L K N F G cells slots Q I A (pc + 3) lv st) : ZW p l e R s m args below meth c nL D cy L K N F G cells slots Q I A pc lv (.int y :: .int x :: st) := by
  intro H locs ls hP hS hl
  exact lv_icmp_le C.x C.b hd ht (fun h => kt h H locs ls hP hS hl) (fun h => kf h H locs ls hP hS hl)
theorem zr_goto (C : ZC p s m args meth c cc own nL D cy L K N F G) {off : Int} {tgt : Nat} (ht : (pc : Int) + off = (tgt : Int)) (hd : decode cc pc = .ok (.goto off, 3)) (kk : ZW p l e R s m args below meth c nL D cy L K N F G cells slots Q I A tgt lv st) : ZW p l e R s m args below meth c nL D cy L K N F G cells slots Q I A pc lv st := by
  intro H locs ls hP hS hl
  exact lv_goto C.x C.b hd ht (kk H locs ls hP hS hl)
theorem zr_tableOut (C : ZC p s m args meth c cc own nL D cy L K N F G) {dflt lo hi : Int} {offs : Array Int} {len : Nat} {x : Int32} {tgt : Nat} (h : x.toInt < lo ∨ hi < x.toInt) (ht : (pc : Int) + dflt = (tgt : Int)) (hd : decode cc pc = .ok (.tableswitch dflt lo hi offs, len)) (kk : ZW p l e R s m args below meth c nL D cy L K N F G cells slots Q I A tgt lv st) : ZW p l e R s m args below meth c nL D cy L K N F G cells slots Q I A pc lv (.int x :: st) := by
  intro H locs ls hP hS hl
  exact lv_tableOut C.x C.b hd h ht (kk H locs ls hP hS hl)
theorem zr_tableIn (C : ZC p s m args meth c cc own nL D cy L K N F G) {dflt lo hi : Int} {offs : Array Int} {len : Nat} {x : Int32} {off : Int} {tgt : Nat} (h1 : ¬ x.toInt < lo) (h2 : ¬ hi < x.toInt) (ho : offs[(x.toInt - lo).toNat]? = some off) (ht : (pc : Int) + off = (tgt : Int)) (hd : decode cc pc = .ok (.tableswitch dflt lo hi offs, len)) (kk : ZW p l e R s m args below meth c nL D cy L K N F G cells slots Q I A tgt lv st) : ZW p l e R s m args below meth c nL D cy L K N F G cells slots Q I A pc lv (.int x :: st) := by
  intro H locs ls hP hS hl
  exact lv_tableIn C.x C.b hd h1 h2 ho ht (kk H locs ls hP hS hl)
theorem zr_get (C : ZC p s m args meth c cc own nL D cy L K N F G) {cn : String} {T : u_T} {Nf ci k : Nat} {a : Nat} {v : Value} {idx : Nat} (hk : K a = ci) (h6 : ci < 6) (hc : vwCl[ci]? = some (cn, T, Nf)) (hin : ∀ w ∈ u_ws cn T Nf, w ∈ zW) (hkN : k < Nf) (hlk : Cond.fieldLink own idx (T k).1 (T k).2.1 (T k).2.2.1 ∈ zW) (hv : (zF ci F I a)[k]? = some v) (hd : decode cc pc = .ok (.getfield idx, 3)) (kk : ZW p l e R s m args below meth c nL D cy L K N F G cells slots Q I A (pc + 3) lv (v :: st)) : ZW p l e R s m args below meth c nL D cy L K N F G cells slots Q I A pc lv (.ref a :: st) := by
  intro H locs ls hP hS hl
  obtain ⟨q0, hq⟩ := z_getk (f := zM cy K N F G I A) (zl_in C.z hk (by omega))
  have he : zM cy K N F G I A a = .inr (ci, zF ci F I a) := by simp only [zM, hk, if_pos h6]
  rw [he] at hq
  exact va_get C.x C.b C.w hin C.o C.k hP q0 hq hc k hkN (C.w _ hlk) (fun _ h => h) hv hd (kk H locs ls hP hS hl)
theorem zr_put (C : ZC p s m args meth c cc own nL D cy L K N F G) {cn : String} {T : u_T} {Nf ci k : Nat} {a : Nat} {v : Int32} {idx : Nat} {ty : FieldType} (ty0 : Nat → FieldType) (hk : K a = ci) (h6 : ci < 6) (hc : vwCl[ci]? = some (cn, T, Nf)) (hin : ∀ w ∈ u_ws cn T Nf, w ∈ zW) (hty : ∀ k, k < Nf → parseFieldDescriptor (T k).2.2.1 = some (ty0 k)) (hnm : ∀ a, a < Nf → ∀ b, b < Nf → a ≠ b → (T a).2.1 ≠ (T b).2.1) (hkN : k < Nf) (hlk : Cond.fieldLink own idx (T k).1 (T k).2.1 (T k).2.2.1 ∈ zW) (hfin : (T k).2.2.2 = false) (hpd : parseFieldDescriptor (T k).2.2.1 = some ty) (hn : narrow ty (.int v) = .int v) (hfit : fits ty (.int v) = true) (hlen : k < (zF ci F I a).length) (hset : (zF ci F I a).set k (.int v) = zF ci F (up2 I a k v) a) (hd : decode cc pc = .ok (.putfield idx, 3)) (kk : ZW p l e R s m args below meth c nL D cy L K N F G cells slots Q (up2 I a k v) A (pc + 3) lv st) : ZW p l e R s m args below meth c nL D cy L K N F G cells slots Q I A pc lv (.int v :: .ref a :: st) := by
  intro H locs ls hP hS hl
  have hL := zl_in C.z hk (by omega)
  obtain ⟨q0, hq⟩ := z_getk (f := zM cy K N F G I A) hL
  have he : zM cy K N F G I A a = .inr (ci, zF ci F I a) := by simp only [zM, hk, if_pos h6]
  have hq2 := hq
  rw [he] at hq2
  refine va_put C.x C.b C.w hin ty0 hty hnm C.o C.k hP (C.d _) hS q0 hq2 hc k hkN (C.w _ hlk) (fun _ h => h) hfin hpd hn hfit hlen hd (fun H1 locs1 hP1 hD1 hS1 => ?_)
  rw [hset, z_set (C.d _) hL hq (g := zM cy K N F G (up2 I a k v) A) (fun b => z_upI cy hk h6 b)] at hP1
  exact kk H1 locs1 ls hP1 hS1 hl
theorem zr_iald (C : ZC p s m args meth c cc own nL D cy L K N F G) {a n : Nat} {i : Int32} (hk : K a = 6) (hn : N a = n) (hin : vp_in i n) (hd : decode cc pc = .ok (.iaload, 1)) (kk : ZW p l e R s m args below meth c nL D cy L K N F G cells slots Q I A (pc + 1) lv (.int (A a i.toNatClampNeg) :: st)) : ZW p l e R s m args below meth c nL D cy L K N F G cells slots Q I A pc lv (.int i :: .ref a :: st) := by
  intro H locs ls hP hS hl
  obtain ⟨q0, hq⟩ := z_getk (f := zM cy K N F G I A) (zl_in C.z hk (by omega))
  have he : zM cy K N F G I A a = .inl (cy 6, N a, .inl (A a)) := by simp [zM, hk]
  rw [he, hn] at hq
  exact va_iald C.x C.b C.k hP q0 0 hq rfl hin hd (kk H locs ls hP hS hl)
theorem zr_iast (C : ZC p s m args meth c cc own nL D cy L K N F G) {a n : Nat} {i x : Int32} (hk : K a = 6) (hn : N a = n) (hin : vp_in i n) (hd : decode cc pc = .ok (.iastore, 1)) (kk : ZW p l e R s m args below meth c nL D cy L K N F G cells slots Q I (up2 A a i.toNatClampNeg x) (pc + 1) lv st) : ZW p l e R s m args below meth c nL D cy L K N F G cells slots Q I A pc lv (.int x :: .int i :: .ref a :: st) := by
  intro H locs ls hP hS hl
  have hL := zl_in C.z hk (by omega)
  obtain ⟨q0, hq⟩ := z_getk (f := zM cy K N F G I A) hL
  have he : zM cy K N F G I A a = .inl (cy 6, N a, .inl (A a)) := by simp [zM, hk]
  have hq2 := hq
  rw [he, hn] at hq2
  refine va_iast C.x C.b C.k hP (C.d _) hS q0 0 hq2 rfl hin hd (fun H1 locs1 hP1 hD1 hS1 => ?_)
  rw [z_set (C.d _) hL hq (g := zM cy K N F G I (up2 A a i.toNatClampNeg x)) (fun b => z_upA cy hk hn b)] at hP1
  exact kk H1 locs1 ls hP1 hS1 hl
theorem zr_ald7 (C : ZC p s m args meth c cc own nL D cy L K N F G) {a n : Nat} {i : Int32} (hk : K a = 7) (hn : N a = n) (hin : vp_in i n) (hd : decode cc pc = .ok (.aaload, 1)) (kk : ZW p l e R s m args below meth c nL D cy L K N F G cells slots Q I A (pc + 1) lv (.ref (G a i.toNatClampNeg) :: st)) : ZW p l e R s m args below meth c nL D cy L K N F G cells slots Q I A pc lv (.int i :: .ref a :: st) := by
  intro H locs ls hP hS hl
  obtain ⟨q0, hq⟩ := z_getk (f := zM cy K N F G I A) (zl_in C.z hk (by omega))
  have he : zM cy K N F G I A a = .inl (cy 7, N a, .inr (.inr (.inr (.inr (fun j => some (G a j)))))) := by simp [zM, hk]
  rw [he, hn] at hq
  exact va_aldq C.x C.b C.k hP q0 1 hq rfl hin hd (kk H locs ls hP hS hl)
theorem zr_ald8 (C : ZC p s m args meth c cc own nL D cy L K N F G) {a n : Nat} {i : Int32} (hk : K a = 8) (hn : N a = n) (hin : vp_in i n) (hd : decode cc pc = .ok (.aaload, 1)) (kk : ZW p l e R s m args below meth c nL D cy L K N F G cells slots Q I A (pc + 1) lv (.ref (G a i.toNatClampNeg) :: st)) : ZW p l e R s m args below meth c nL D cy L K N F G cells slots Q I A pc lv (.int i :: .ref a :: st) := by
  intro H locs ls hP hS hl
  obtain ⟨q0, hq⟩ := z_getk (f := zM cy K N F G I A) (zl_in C.z hk (by omega))
  have he : zM cy K N F G I A a = .inl (cy 8, N a, .inr (.inr (.inr (.inr (fun j => some (G a j)))))) := by simp [zM, hk]
  rw [he, hn] at hq
  exact va_aldq C.x C.b C.k hP q0 2 hq rfl hin hd (kk H locs ls hP hS hl)
theorem zr_ald9 (C : ZC p s m args meth c cc own nL D cy L K N F G) {a n : Nat} {i : Int32} (hk : K a = 9) (hn : N a = n) (hin : vp_in i n) (hd : decode cc pc = .ok (.aaload, 1)) (kk : ZW p l e R s m args below meth c nL D cy L K N F G cells slots Q I A (pc + 1) lv (.ref (G a i.toNatClampNeg) :: st)) : ZW p l e R s m args below meth c nL D cy L K N F G cells slots Q I A pc lv (.int i :: .ref a :: st) := by
  intro H locs ls hP hS hl
  obtain ⟨q0, hq⟩ := z_getk (f := zM cy K N F G I A) (zl_in C.z hk (by omega))
  have he : zM cy K N F G I A a = .inl (cy 9, N a, .inr (.inr (.inr (.inr (fun j => some (G a j)))))) := by simp [zM, hk]
  rw [he, hn] at hq
  exact va_aldq C.x C.b C.k hP q0 3 hq rfl hin hd (kk H locs ls hP hS hl)
theorem zr_ald10 (C : ZC p s m args meth c cc own nL D cy L K N F G) {a n : Nat} {i : Int32} (hk : K a = 10) (hn : N a = n) (hin : vp_in i n) (hd : decode cc pc = .ok (.aaload, 1)) (kk : ZW p l e R s m args below meth c nL D cy L K N F G cells slots Q I A (pc + 1) lv (.ref (G a i.toNatClampNeg) :: st)) : ZW p l e R s m args below meth c nL D cy L K N F G cells slots Q I A pc lv (.int i :: .ref a :: st) := by
  intro H locs ls hP hS hl
  obtain ⟨q0, hq⟩ := z_getk (f := zM cy K N F G I A) (zl_in C.z hk (by omega))
  have he : zM cy K N F G I A a = .inl (cy 10, N a, .inr (.inr (.inr (.inr (fun j => some (G a j)))))) := by simp [zM, hk]
  rw [he, hn] at hq
  exact va_aldqA C.x C.b C.k hP q0 4 hq rfl hin hd (kk H locs ls hP hS hl)
theorem zr_min (C : ZC p s m args meth c cc own nL D cy L K N F G) {idx : Nat} {x y : Int32} (h1 : Cond.methodLink own idx Lib.Math.min.name ∈ zW) (h2 : Cond.static Lib.Math.min.name ∈ zW) (h3 : Cond.initialized "java/lang/Math" ∈ zW) (h4 : Cond.code Lib.Math.min.name Lib.Math.min.code 2 (some .int) ∈ zW) (hf : 1 ≤ R.frames) (hlo : (st.map fun v => v.category).sum + 13 ≤ R.locals) (hcs : cells ≤ R.cells ∧ slots ≤ R.slots) (hd : decode cc pc = .ok (.invokestatic idx, 3)) (kk : ZW p l e R s m args below meth c nL D cy L K N F G cells slots Q I A (pc + 3) lv (.int (if y < x then y else x) :: st)) : ZW p l e R s m args below meth c nL D cy L K N F G cells slots Q I A pc lv (.int y :: .int x :: st) := by
  intro H locs ls hP hS hl
  exact va_mmin C.x C.b (C.ml.trans hl.1.symm) C.o (C.w _ h1) (C.w _ h2) (C.w _ h3) (C.w _ h4) hf hlo hcs.1 hcs.2 hd (kk H locs ls hP hS hl)
theorem zr_callVi (C : ZC p s m args meth c cc own nL D cy L K N F G) {y : MethodName} {bytes : ByteArray} {maxL n idx : Nat} {rm : Room} {As : List Value} {st0 : List Value} {rt : Option FieldType} {r : Int32} {a ci Nf : Nat} {T : u_T} (hM : ZMi l y bytes maxL rt rm D cy L K N F G (.ref a :: As) I A r I' A') (w1 : Cond.methodLink own idx y ∈ zW) (w2 : Cond.instanceMethod y ∈ zW) (w3 : Cond.selects y.cls y y ∈ zW) (w4 : Cond.initialized y.cls ∈ zW) (w5 : Cond.code y bytes maxL rt ∈ zW) (hd0 : y.cls ≠ "java/lang/invoke/MethodHandle" ∧ y.cls ≠ "java/lang/invoke/VarHandle" ∧ (parseMethodDescriptor y.desc).map (fun d => d.parameters.length) = some n) (hR : rm.frames + 1 ≤ R.frames ∧ 8 + (maxL + 11) + rm.locals ≤ R.locals) (hrc : rm.cells = 0) (hrs : rm.slots = 0) (hcs : cells ≤ R.cells ∧ slots ≤ R.slots) (hk : K a = ci) (h6 : ci < 6) (hc : vwCl[ci]? = some (y.cls, T, Nf)) (hn : As.length = n) (hst : st0 = As.reverse ++ .ref a :: st) (hW : (st.map fun v => v.category).sum ≤ 8) (hd : decode cc pc = .ok (.invokevirtual idx, 3)) (kk : ZW p l e R s m args below meth c nL D cy L K N F G cells slots Q I' A' (pc + 3) lv (.int r :: st)) : ZW p l e R s m args below meth c nL D cy L K N F G cells slots Q I A pc lv st0 := by
  intro H locs ls hP hS hl
  obtain ⟨q0, hq⟩ := z_getk (f := zM cy K N F G I A) (zl_in C.z hk (by omega))
  have he : zM cy K N F G I A a = .inr (ci, zF ci F I a) := by simp only [zM, hk, if_pos h6]
  rw [he] at hq
  refine va_calli (va_runV (As := As) (rest := st) ⟨C.x, C.b, C.ml, C.o, C.w⟩ (hM H.size) (cwV n C.w (zGV w1 w2 w3 w4 w5) rfl hrc hrs ⟨rfl, hd0⟩ hR) ⟨zPre.blind, va_recv C.k hP hc hq, fun U hU hW => ⟨rfl, by rw [hU], by rw [hU]; exact hP, va_K.moved hW.alike C.k, zNb.warm hW C.nb⟩⟩ rfl hn hl.1 hst (lv_room hW) hd hcs) hS (fun q _ h => z_free hS q h) (z_free hS) (fun x u t H1 locs1 ht hvm hw hB hz1 hk1 hS1 => ?_)
  rw [show zPost D cy L K N F G I' A' t = va_P D vwCl (va_pl L (zM cy K N F G I' A')) t.heap from rfl, ht] at hB
  subst hw
  exact kk H1 locs1 ls hB hS1 hl
theorem zr_callSi (C : ZC p s m args meth c cc own nL D cy L K N F G) {y : MethodName} {bytes : ByteArray} {maxL n idx : Nat} {rm : Room} {As : List Value} {st0 : List Value} {rt : Option FieldType} {r : Int32} (hM : ZMi l y bytes maxL rt rm D cy L K N F G As I A r I' A') (w1 : Cond.methodLink own idx y ∈ zW) (w2 : Cond.static y ∈ zW) (w4 : Cond.initialized y.cls ∈ zW) (w5 : Cond.code y bytes maxL rt ∈ zW) (hd0 : y.cls ≠ "java/lang/invoke/MethodHandle" ∧ y.cls ≠ "java/lang/invoke/VarHandle" ∧ (parseMethodDescriptor y.desc).map (fun d => d.parameters.length) = some n) (hR : rm.frames + 1 ≤ R.frames ∧ 8 + (maxL + 11) + rm.locals ≤ R.locals) (hrc : rm.cells = 0) (hrs : rm.slots = 0) (hcs : cells ≤ R.cells ∧ slots ≤ R.slots) (hn : As.length = n) (hst : st0 = As.reverse ++ st) (hW : (st.map fun v => v.category).sum ≤ 8) (hd : decode cc pc = .ok (.invokestatic idx, 3)) (kk : ZW p l e R s m args below meth c nL D cy L K N F G cells slots Q I' A' (pc + 3) lv (.int r :: st)) : ZW p l e R s m args below meth c nL D cy L K N F G cells slots Q I A pc lv st0 := by
  intro H locs ls hP hS hl
  refine va_calli (va_runS (As := As) (rest := st) ⟨C.x, C.b, C.ml, C.o, C.w⟩ (hM H.size) (va_cwS n C.w (zGS w1 w2 w4 w5) rfl hrc hrs hd0 hR) ⟨zPre.blind, fun U hU hW => ⟨rfl, by rw [hU], by rw [hU]; exact hP, va_K.moved hW.alike C.k, zNb.warm hW C.nb⟩⟩ rfl hn hl.1 hst (lv_room hW) hd hcs) hS (fun q _ h => z_free hS q h) (z_free hS) (fun x u t H1 locs1 ht hvm hw hB hz1 hk1 hS1 => ?_)
  rw [show zPost D cy L K N F G I' A' t = va_P D vwCl (va_pl L (zM cy K N F G I' A')) t.heap from rfl, ht] at hB
  subst hw
  exact kk H1 locs1 ls hB hS1 hl
theorem zr_callNi (C : ZC p s m args meth c cc own nL D cy L K N F G) {y : MethodName} {bytes : ByteArray} {maxL n idx : Nat} {rm : Room} {As : List Value} {st0 : List Value} {rt : Option FieldType} {r : Int32} {host : String} (hM : ZMi l y bytes maxL rt rm D cy L K N F G As I A r I' A') (w1 : va_Nw (.methodLinkNest own idx y host) s) (w2 : Cond.static y ∈ zW) (w4 : Cond.initialized y.cls ∈ zW) (w5 : Cond.code y bytes maxL rt ∈ zW) (hd0 : y.cls ≠ "java/lang/invoke/MethodHandle" ∧ y.cls ≠ "java/lang/invoke/VarHandle" ∧ (parseMethodDescriptor y.desc).map (fun d => d.parameters.length) = some n) (hR : rm.frames + 1 ≤ R.frames ∧ 8 + (maxL + 11) + rm.locals ≤ R.locals) (hrc : rm.cells = 0) (hrs : rm.slots = 0) (hcs : cells ≤ R.cells ∧ slots ≤ R.slots) (hn : As.length = n) (hst : st0 = As.reverse ++ st) (hW : (st.map fun v => v.category).sum ≤ 8) (hd : decode cc pc = .ok (.invokestatic idx, 3)) (kk : ZW p l e R s m args below meth c nL D cy L K N F G cells slots Q I' A' (pc + 3) lv (.int r :: st)) : ZW p l e R s m args below meth c nL D cy L K N F G cells slots Q I A pc lv st0 := by
  intro H locs ls hP hS hl
  refine va_calli (va_runSN (As := As) (rest := st) ⟨C.x, C.b, C.ml, C.o, C.w⟩ (hM H.size) ⟨va_cnB n C.w (zGood w5) rfl hrc hrs w1 (C.w _ w4) hd0 hR, C.w _ w2, trivial⟩ ⟨zPre.blind, fun U hU hW => ⟨rfl, by rw [hU], by rw [hU]; exact hP, va_K.moved hW.alike C.k, zNb.warm hW C.nb⟩⟩ rfl hn hl.1 hst (lv_room hW) hd hcs) hS (fun q _ h => z_free hS q h) (z_free hS) (fun x u t H1 locs1 ht hvm hw hB hz1 hk1 hS1 => ?_)
  rw [show zPost D cy L K N F G I' A' t = va_P D vwCl (va_pl L (zM cy K N F G I' A')) t.heap from rfl, ht] at hB
  subst hw
  exact kk H1 locs1 ls hB hS1 hl
theorem zr_callVl (C : ZC p s m args meth c cc own nL D cy L K N F G) {y : MethodName} {bytes : ByteArray} {maxL n idx : Nat} {rm : Room} {As : List Value} {st0 : List Value} {rt : Option FieldType} {r : Int64} {a ci Nf : Nat} {T : u_T} (hM : ZMl l y bytes maxL rt rm D cy L K N F G (.ref a :: As) I A r I' A') (w1 : Cond.methodLink own idx y ∈ zW) (w2 : Cond.instanceMethod y ∈ zW) (w3 : Cond.selects y.cls y y ∈ zW) (w4 : Cond.initialized y.cls ∈ zW) (w5 : Cond.code y bytes maxL rt ∈ zW) (hd0 : y.cls ≠ "java/lang/invoke/MethodHandle" ∧ y.cls ≠ "java/lang/invoke/VarHandle" ∧ (parseMethodDescriptor y.desc).map (fun d => d.parameters.length) = some n) (hR : rm.frames + 1 ≤ R.frames ∧ 8 + (maxL + 11) + rm.locals ≤ R.locals) (hrc : rm.cells = 0) (hrs : rm.slots = 0) (hcs : cells ≤ R.cells ∧ slots ≤ R.slots) (hk : K a = ci) (h6 : ci < 6) (hc : vwCl[ci]? = some (y.cls, T, Nf)) (hn : As.length = n) (hst : st0 = As.reverse ++ .ref a :: st) (hW : (st.map fun v => v.category).sum ≤ 8) (hd : decode cc pc = .ok (.invokevirtual idx, 3)) (kk : ZW p l e R s m args below meth c nL D cy L K N F G cells slots Q I' A' (pc + 3) lv (.long r :: st)) : ZW p l e R s m args below meth c nL D cy L K N F G cells slots Q I A pc lv st0 := by
  intro H locs ls hP hS hl
  obtain ⟨q0, hq⟩ := z_getk (f := zM cy K N F G I A) (zl_in C.z hk (by omega))
  have he : zM cy K N F G I A a = .inr (ci, zF ci F I a) := by simp only [zM, hk, if_pos h6]
  rw [he] at hq
  refine va_calll (va_runV (As := As) (rest := st) ⟨C.x, C.b, C.ml, C.o, C.w⟩ (hM H.size) (cwV n C.w (zGV w1 w2 w3 w4 w5) rfl hrc hrs ⟨rfl, hd0⟩ hR) ⟨zPre.blind, va_recv C.k hP hc hq, fun U hU hW => ⟨rfl, by rw [hU], by rw [hU]; exact hP, va_K.moved hW.alike C.k, zNb.warm hW C.nb⟩⟩ rfl hn hl.1 hst (lv_room hW) hd hcs) hS (fun q _ h => z_free hS q h) (z_free hS) (fun x u t H1 locs1 ht hvm hw hB hz1 hk1 hS1 => ?_)
  rw [show zPost D cy L K N F G I' A' t = va_P D vwCl (va_pl L (zM cy K N F G I' A')) t.heap from rfl, ht] at hB
  subst hw
  exact kk H1 locs1 ls hB hS1 hl
theorem zr_callSl (C : ZC p s m args meth c cc own nL D cy L K N F G) {y : MethodName} {bytes : ByteArray} {maxL n idx : Nat} {rm : Room} {As : List Value} {st0 : List Value} {rt : Option FieldType} {r : Int64} (hM : ZMl l y bytes maxL rt rm D cy L K N F G As I A r I' A') (w1 : Cond.methodLink own idx y ∈ zW) (w2 : Cond.static y ∈ zW) (w4 : Cond.initialized y.cls ∈ zW) (w5 : Cond.code y bytes maxL rt ∈ zW) (hd0 : y.cls ≠ "java/lang/invoke/MethodHandle" ∧ y.cls ≠ "java/lang/invoke/VarHandle" ∧ (parseMethodDescriptor y.desc).map (fun d => d.parameters.length) = some n) (hR : rm.frames + 1 ≤ R.frames ∧ 8 + (maxL + 11) + rm.locals ≤ R.locals) (hrc : rm.cells = 0) (hrs : rm.slots = 0) (hcs : cells ≤ R.cells ∧ slots ≤ R.slots) (hn : As.length = n) (hst : st0 = As.reverse ++ st) (hW : (st.map fun v => v.category).sum ≤ 8) (hd : decode cc pc = .ok (.invokestatic idx, 3)) (kk : ZW p l e R s m args below meth c nL D cy L K N F G cells slots Q I' A' (pc + 3) lv (.long r :: st)) : ZW p l e R s m args below meth c nL D cy L K N F G cells slots Q I A pc lv st0 := by
  intro H locs ls hP hS hl
  refine va_calll (va_runS (As := As) (rest := st) ⟨C.x, C.b, C.ml, C.o, C.w⟩ (hM H.size) (va_cwS n C.w (zGS w1 w2 w4 w5) rfl hrc hrs hd0 hR) ⟨zPre.blind, fun U hU hW => ⟨rfl, by rw [hU], by rw [hU]; exact hP, va_K.moved hW.alike C.k, zNb.warm hW C.nb⟩⟩ rfl hn hl.1 hst (lv_room hW) hd hcs) hS (fun q _ h => z_free hS q h) (z_free hS) (fun x u t H1 locs1 ht hvm hw hB hz1 hk1 hS1 => ?_)
  rw [show zPost D cy L K N F G I' A' t = va_P D vwCl (va_pl L (zM cy K N F G I' A')) t.heap from rfl, ht] at hB
  subst hw
  exact kk H1 locs1 ls hB hS1 hl
theorem zr_callVv (C : ZC p s m args meth c cc own nL D cy L K N F G) {y : MethodName} {bytes : ByteArray} {maxL n idx : Nat} {rm : Room} {As : List Value} {st0 : List Value} {rt : Option FieldType}  {a ci Nf : Nat} {T : u_T} (hM : ZMv l y bytes maxL rt rm D cy L K N F G (.ref a :: As) I A I' A') (w1 : Cond.methodLink own idx y ∈ zW) (w2 : Cond.instanceMethod y ∈ zW) (w3 : Cond.selects y.cls y y ∈ zW) (w4 : Cond.initialized y.cls ∈ zW) (w5 : Cond.code y bytes maxL rt ∈ zW) (hd0 : y.cls ≠ "java/lang/invoke/MethodHandle" ∧ y.cls ≠ "java/lang/invoke/VarHandle" ∧ (parseMethodDescriptor y.desc).map (fun d => d.parameters.length) = some n) (hR : rm.frames + 1 ≤ R.frames ∧ 8 + (maxL + 11) + rm.locals ≤ R.locals) (hrc : rm.cells = 0) (hrs : rm.slots = 0) (hcs : cells ≤ R.cells ∧ slots ≤ R.slots) (hk : K a = ci) (h6 : ci < 6) (hc : vwCl[ci]? = some (y.cls, T, Nf)) (hn : As.length = n) (hst : st0 = As.reverse ++ .ref a :: st) (hW : (st.map fun v => v.category).sum ≤ 8) (hd : decode cc pc = .ok (.invokevirtual idx, 3)) (kk : ZW p l e R s m args below meth c nL D cy L K N F G cells slots Q I' A' (pc + 3) lv st) : ZW p l e R s m args below meth c nL D cy L K N F G cells slots Q I A pc lv st0 := by
  intro H locs ls hP hS hl
  obtain ⟨q0, hq⟩ := z_getk (f := zM cy K N F G I A) (zl_in C.z hk (by omega))
  have he : zM cy K N F G I A a = .inr (ci, zF ci F I a) := by simp only [zM, hk, if_pos h6]
  rw [he] at hq
  refine va_callv (va_runV (As := As) (rest := st) ⟨C.x, C.b, C.ml, C.o, C.w⟩ (hM H.size) (cwV n C.w (zGV w1 w2 w3 w4 w5) rfl hrc hrs ⟨rfl, hd0⟩ hR) ⟨zPre.blind, va_recv C.k hP hc hq, fun U hU hW => ⟨rfl, by rw [hU], by rw [hU]; exact hP, va_K.moved hW.alike C.k, zNb.warm hW C.nb⟩⟩ rfl hn hl.1 hst (lv_room hW) hd hcs) hS (fun q _ h => z_free hS q h) (z_free hS) (fun u t H1 locs1 ht hvm hw hB hz1 hk1 hS1 => ?_)
  rw [show zPost D cy L K N F G I' A' t = va_P D vwCl (va_pl L (zM cy K N F G I' A')) t.heap from rfl, ht] at hB
  exact kk H1 locs1 ls hB hS1 hl
theorem zr_callSv (C : ZC p s m args meth c cc own nL D cy L K N F G) {y : MethodName} {bytes : ByteArray} {maxL n idx : Nat} {rm : Room} {As : List Value} {st0 : List Value} {rt : Option FieldType}  (hM : ZMv l y bytes maxL rt rm D cy L K N F G As I A I' A') (w1 : Cond.methodLink own idx y ∈ zW) (w2 : Cond.static y ∈ zW) (w4 : Cond.initialized y.cls ∈ zW) (w5 : Cond.code y bytes maxL rt ∈ zW) (hd0 : y.cls ≠ "java/lang/invoke/MethodHandle" ∧ y.cls ≠ "java/lang/invoke/VarHandle" ∧ (parseMethodDescriptor y.desc).map (fun d => d.parameters.length) = some n) (hR : rm.frames + 1 ≤ R.frames ∧ 8 + (maxL + 11) + rm.locals ≤ R.locals) (hrc : rm.cells = 0) (hrs : rm.slots = 0) (hcs : cells ≤ R.cells ∧ slots ≤ R.slots) (hn : As.length = n) (hst : st0 = As.reverse ++ st) (hW : (st.map fun v => v.category).sum ≤ 8) (hd : decode cc pc = .ok (.invokestatic idx, 3)) (kk : ZW p l e R s m args below meth c nL D cy L K N F G cells slots Q I' A' (pc + 3) lv st) : ZW p l e R s m args below meth c nL D cy L K N F G cells slots Q I A pc lv st0 := by
  intro H locs ls hP hS hl
  refine va_callv (va_runS (As := As) (rest := st) ⟨C.x, C.b, C.ml, C.o, C.w⟩ (hM H.size) (va_cwS n C.w (zGS w1 w2 w4 w5) rfl hrc hrs hd0 hR) ⟨zPre.blind, fun U hU hW => ⟨rfl, by rw [hU], by rw [hU]; exact hP, va_K.moved hW.alike C.k, zNb.warm hW C.nb⟩⟩ rfl hn hl.1 hst (lv_room hW) hd hcs) hS (fun q _ h => z_free hS q h) (z_free hS) (fun u t H1 locs1 ht hvm hw hB hz1 hk1 hS1 => ?_)
  rw [show zPost D cy L K N F G I' A' t = va_P D vwCl (va_pl L (zM cy K N F G I' A')) t.heap from rfl, ht] at hB
  exact kk H1 locs1 ls hB hS1 hl
theorem zr_iret (C : ZC p s m args meth c cc own nL D cy L K N F G) {r : Int32} (hr : meth.sig.returnType = some .int) (hd : decode cc pc = .ok (.ireturn, 1)) : ZW p l e R s m args below meth c nL D cy L K N F G cells slots (MQ below (va_Qi (fun x (_ : Unit) => x = r) (fun _ t => zPost D cy L K N F G I A t) (zA L s.heap.size)) args s cells slots (zA L s.heap.size)) I A pc lv [.int r] := by
  intro H locs ls hP hS hl
  exact W.iret C.x C.b hr (fun t ht hW => ⟨⟨r, (), rfl, rfl, (show va_P D vwCl (va_pl L (zM cy K N F G I A)) t.heap by rw [ht]; exact hP)⟩, hS.F ht⟩) hS.2.2 hd C.lk
theorem zr_lret (C : ZC p s m args meth c cc own nL D cy L K N F G) {r : Int64} (hr : meth.sig.returnType = some .long) (hd : decode cc pc = .ok (.lreturn, 1)) : ZW p l e R s m args below meth c nL D cy L K N F G cells slots (MQ below (va_Ql (fun x (_ : Unit) => x = r) (fun _ t => zPost D cy L K N F G I A t) (zA L s.heap.size)) args s cells slots (zA L s.heap.size)) I A pc lv [.long r] := by
  intro H locs ls hP hS hl
  exact W.lret C.x C.b hr (fun t ht hW => ⟨⟨r, (), rfl, rfl, (show va_P D vwCl (va_pl L (zM cy K N F G I A)) t.heap by rw [ht]; exact hP)⟩, hS.F ht⟩) hS.2.2 hd C.lk
theorem zr_vret (C : ZC p s m args meth c cc own nL D cy L K N F G)  (hr : meth.sig.returnType = none) (hd : decode cc pc = .ok (.return_, 1)) : ZW p l e R s m args below meth c nL D cy L K N F G cells slots (MQ below (va_Qv (fun _ : Unit => True) (fun _ t => zPost D cy L K N F G I A t) (zA L s.heap.size)) args s cells slots (zA L s.heap.size)) I A pc lv [] := by
  intro H locs ls hP hS hl
  exact W.vret C.x C.b hr (fun t ht hW => ⟨⟨(), rfl, trivial, (show va_P D vwCl (va_pl L (zM cy K N F G I A)) t.heap by rw [ht]; exact hP)⟩, hS.F ht⟩) hS.2.2 hd C.lk
theorem zr_zret (C : ZC p s m args meth c cc own nL D cy L K N F G) {r : Int32} {ty : FieldType} (hr : meth.sig.returnType = some ty) (hn : narrow ty (.int r) = .int r) (hd : decode cc pc = .ok (.ireturn, 1)) : ZW p l e R s m args below meth c nL D cy L K N F G cells slots (MQ below (va_Qi (fun x (_ : Unit) => x = r) (fun _ t => zPost D cy L K N F G I A t) (zA L s.heap.size)) args s cells slots (zA L s.heap.size)) I A pc lv [.int r] := by
  intro H locs ls hP hS hl
  exact W.zret C.x C.b hr hn (fun t ht hW => ⟨⟨r, (), rfl, rfl, (show va_P D vwCl (va_pl L (zM cy K N F G I A)) t.heap by rw [ht]; exact hP)⟩, hS.F ht⟩) hS.2.2 hd C.lk
theorem ZMi.of {y : MethodName} {ret : Option FieldType} {rm : Room} {avs : List Value} {r : Int32} (hZ : ZL L K N F G) (hrc : rm.cells = 0) (hrs : rm.slots = 0) (hy : plainName y.cls = true) (hlen : (lg_sl avs).length ≤ nL) (body : ∀ (p : Program) (e : Env) (s : State) (m : MethodId) (args : Array Value) (below : List Frame) (meth : Method) (c : Code), ZC p s m args meth c cc y.cls nL D cy L K N F G → meth.sig.returnType = ret → ZW p l e rm s m args below meth c nL D cy L K N F G 0 0 (MQ below (va_Qi (fun x (_ : Unit) => x = r) (fun _ t => zPost D cy L K N F G I' A' t) (zA L s.heap.size)) args s 0 0 (zA L s.heap.size)) I A 0 (lv_args 0 avs) []) : ZMi l y cc nL ret rm D cy L K N F G avs I A r I' A' := by
  intro sz
  refine Met.ofW (cc := cc) (maxL := nL) (ret := ret) hy rfl ?_
  intro p e s m args below meth c s₁ B hml hv
  obtain ⟨rfl, hsz, hP, hK, hNb⟩ := hv
  subst hsz
  have hts := atoms_spec (ws := .code y cc nL ret :: zW) B.pre
  have C : ZC p s m avs.toArray meth c cc y.cls nL D cy L K N F G := ⟨B.exec, B.bytes, hml, fun w h => hts w (List.mem_cons_of_mem _ h), findClass_of_methodNamed B.named, B.notSynchronized, hK, hZ, hNb⟩
  rw [lg_entry_eq]
  exact body p e s m avs.toArray below meth c C B.returns s.heap [] _ hP va_S.rf (lv_entry avs hlen)
theorem ZMl.of {y : MethodName} {ret : Option FieldType} {rm : Room} {avs : List Value} {r : Int64} (hZ : ZL L K N F G) (hrc : rm.cells = 0) (hrs : rm.slots = 0) (hy : plainName y.cls = true) (hlen : (lg_sl avs).length ≤ nL) (body : ∀ (p : Program) (e : Env) (s : State) (m : MethodId) (args : Array Value) (below : List Frame) (meth : Method) (c : Code), ZC p s m args meth c cc y.cls nL D cy L K N F G → meth.sig.returnType = ret → ZW p l e rm s m args below meth c nL D cy L K N F G 0 0 (MQ below (va_Ql (fun x (_ : Unit) => x = r) (fun _ t => zPost D cy L K N F G I' A' t) (zA L s.heap.size)) args s 0 0 (zA L s.heap.size)) I A 0 (lv_args 0 avs) []) : ZMl l y cc nL ret rm D cy L K N F G avs I A r I' A' := by
  intro sz
  refine Met.ofW (cc := cc) (maxL := nL) (ret := ret) hy rfl ?_
  intro p e s m args below meth c s₁ B hml hv
  obtain ⟨rfl, hsz, hP, hK, hNb⟩ := hv
  subst hsz
  have hts := atoms_spec (ws := .code y cc nL ret :: zW) B.pre
  have C : ZC p s m avs.toArray meth c cc y.cls nL D cy L K N F G := ⟨B.exec, B.bytes, hml, fun w h => hts w (List.mem_cons_of_mem _ h), findClass_of_methodNamed B.named, B.notSynchronized, hK, hZ, hNb⟩
  rw [lg_entry_eq]
  exact body p e s m avs.toArray below meth c C B.returns s.heap [] _ hP va_S.rf (lv_entry avs hlen)
theorem ZMv.of {y : MethodName} {ret : Option FieldType} {rm : Room} {avs : List Value}  (hZ : ZL L K N F G) (hrc : rm.cells = 0) (hrs : rm.slots = 0) (hy : plainName y.cls = true) (hlen : (lg_sl avs).length ≤ nL) (body : ∀ (p : Program) (e : Env) (s : State) (m : MethodId) (args : Array Value) (below : List Frame) (meth : Method) (c : Code), ZC p s m args meth c cc y.cls nL D cy L K N F G → meth.sig.returnType = ret → ZW p l e rm s m args below meth c nL D cy L K N F G 0 0 (MQ below (va_Qv (fun _ : Unit => True) (fun _ t => zPost D cy L K N F G I' A' t) (zA L s.heap.size)) args s 0 0 (zA L s.heap.size)) I A 0 (lv_args 0 avs) []) : ZMv l y cc nL ret rm D cy L K N F G avs I A I' A' := by
  intro sz
  refine Met.ofW (cc := cc) (maxL := nL) (ret := ret) hy rfl ?_
  intro p e s m args below meth c s₁ B hml hv
  obtain ⟨rfl, hsz, hP, hK, hNb⟩ := hv
  subst hsz
  have hts := atoms_spec (ws := .code y cc nL ret :: zW) B.pre
  have C : ZC p s m avs.toArray meth c cc y.cls nL D cy L K N F G := ⟨B.exec, B.bytes, hml, fun w h => hts w (List.mem_cons_of_mem _ h), findClass_of_methodNamed B.named, B.notSynchronized, hK, hZ, hNb⟩
  rw [lg_entry_eq]
  exact body p e s m avs.toArray below meth c C B.returns s.heap [] _ hP va_S.rf (lv_entry avs hlen)
end ZK
end
section
theorem wd_597 : (Cond.constantLong RX5 289 (58109)) ∈ zW := zIn 597 (by decide +kernel) (by decide +kernel)
theorem wd_158 : (Cond.fieldLink RX5 12 "SnippetBank" "draftRow" "LSnippetBank$Row;") ∈ zW := zIn 158 (by decide +kernel) (by decide +kernel)
theorem wd_32 : (Cond.fieldLink RX5 79 "SnippetBank$Row" "length" "I") ∈ zW := zIn 32 (by decide +kernel) (by decide +kernel)
theorem wd_166 : (Cond.fieldLink RX5 53 "SnippetBank" "pieceCount" "I") ∈ zW := zIn 166 (by decide +kernel) (by decide +kernel)
theorem wd_167 : (Cond.fieldLink RX5 57 "SnippetBank" "licenceCount" "I") ∈ zW := zIn 167 (by decide +kernel) (by decide +kernel)
theorem wd_168 : (Cond.fieldLink RX5 60 "SnippetBank" "projectCount" "I") ∈ zW := zIn 168 (by decide +kernel) (by decide +kernel)
theorem wd_163 : (Cond.fieldLink RX5 39 "SnippetBank" "projects" "[LSnippetBank$Project;") ∈ zW := zIn 163 (by decide +kernel) (by decide +kernel)
theorem wd_138 : (Cond.fieldLink RX5 242 "SnippetBank$Project" "state" "I") ∈ zW := zIn 138 (by decide +kernel) (by decide +kernel)
theorem wd_511 : (Cond.methodLink RX5 268 yX5_projectsThatAre) ∈ zW := zIn 511 (by decide +kernel) (by decide +kernel)
theorem wd_514 : (Cond.code yX5_projectsThatAre cX5_projectsThatAre 4 (some .int)) ∈ zW := zIn 514 (by decide +kernel) (by decide +kernel)
theorem wd_1 : (Cond.initialized RX5) ∈ zW := zIn 1 (by decide +kernel) (by decide +kernel)
theorem wd_513 : (Cond.instanceMethod yX5_projectsThatAre) ∈ zW := zIn 513 (by decide +kernel) (by decide +kernel)
theorem wp_18 : (Cond.selects RX5 yX5_projectsThatAre yX5_projectsThatAre) ∈ zW := zInS 18 (by decide +kernel) (by decide +kernel)
theorem wd_134 : (Cond.fieldLink RX5 256 "SnippetBank$Project" "nodes" "I") ∈ zW := zIn 134 (by decide +kernel) (by decide +kernel)
theorem wd_361 : (Cond.constant RJ6 265 (1431655765)) ∈ zW := zIn 361 (by decide +kernel) (by decide +kernel)
theorem wd_362 : (Cond.constant RJ6 266 (858993459)) ∈ zW := zIn 362 (by decide +kernel) (by decide +kernel)
theorem wd_363 : (Cond.constant RJ6 267 (252645135)) ∈ zW := zIn 363 (by decide +kernel) (by decide +kernel)
theorem wd_503 : (Cond.methodLink RX5 227 yJ6_bitCount_0f7a4) ∈ zW := zIn 503 (by decide +kernel) (by decide +kernel)
theorem wd_360 : (Cond.code yJ6_bitCount_0f7a4 cJ6_bitCount_0f7a4 1 (some .int)) ∈ zW := zIn 360 (by decide +kernel) (by decide +kernel)
theorem wd_12 : (Cond.initialized RJ6) ∈ zW := zIn 12 (by decide +kernel) (by decide +kernel)
theorem wd_359 : (Cond.static yJ6_bitCount_0f7a4) ∈ zW := zIn 359 (by decide +kernel) (by decide +kernel)
theorem wd_515 : (Cond.methodLink RX5 271 yX5_nodesOfAll) ∈ zW := zIn 515 (by decide +kernel) (by decide +kernel)
theorem wd_518 : (Cond.code yX5_nodesOfAll cX5_nodesOfAll 3 (some .int)) ∈ zW := zIn 518 (by decide +kernel) (by decide +kernel)
theorem wd_517 : (Cond.instanceMethod yX5_nodesOfAll) ∈ zW := zIn 517 (by decide +kernel) (by decide +kernel)
theorem wp_19 : (Cond.selects RX5 yX5_nodesOfAll yX5_nodesOfAll) ∈ zW := zInS 19 (by decide +kernel) (by decide +kernel)
theorem wd_161 : (Cond.fieldLink RX5 27 "SnippetBank" "origins" "[I") ∈ zW := zIn 161 (by decide +kernel) (by decide +kernel)
theorem wd_519 : (Cond.methodLink RX5 274 yX5_firstPieces) ∈ zW := zIn 519 (by decide +kernel) (by decide +kernel)
theorem wd_522 : (Cond.code yX5_firstPieces cX5_firstPieces 3 (some .int)) ∈ zW := zIn 522 (by decide +kernel) (by decide +kernel)
theorem wd_521 : (Cond.instanceMethod yX5_firstPieces) ∈ zW := zIn 521 (by decide +kernel) (by decide +kernel)
theorem wp_20 : (Cond.selects RX5 yX5_firstPieces yX5_firstPieces) ∈ zW := zInS 20 (by decide +kernel) (by decide +kernel)
theorem wd_169 : (Cond.fieldLink RX5 63 "SnippetBank" "grantedCount" "I") ∈ zW := zIn 169 (by decide +kernel) (by decide +kernel)
theorem wd_170 : (Cond.fieldLink RX5 66 "SnippetBank" "nearLimit" "I") ∈ zW := zIn 170 (by decide +kernel) (by decide +kernel)
theorem wd_598 : (Cond.methodLink RX5 291 yX5_many) ∈ zW := zIn 598 (by decide +kernel) (by decide +kernel)
theorem wd_510 : (Cond.code yX5_many cX5_many 2 (some .int)) ∈ zW := zIn 510 (by decide +kernel) (by decide +kernel)
theorem wd_508 : (Cond.instanceMethod yX5_many) ∈ zW := zIn 508 (by decide +kernel) (by decide +kernel)
theorem wd_509 : (Cond.selects RX5 yX5_many yX5_many) ∈ zW := zIn 509 (by decide +kernel) (by decide +kernel)
theorem wd_602 : (Cond.constantLong RX5 310 (31)) ∈ zW := zIn 602 (by decide +kernel) (by decide +kernel)
theorem wd_599 : (Cond.methodLink RX5 294 yX5_fold) ∈ zW := zIn 599 (by decide +kernel) (by decide +kernel)
theorem wd_601 : (Cond.code yX5_fold cX5_fold 3 (some .long)) ∈ zW := zIn 601 (by decide +kernel) (by decide +kernel)
theorem wd_600 : (Cond.static yX5_fold) ∈ zW := zIn 600 (by decide +kernel) (by decide +kernel)
theorem wd_368 : (Cond.methodLink RX5 96 yX5_needPiece) ∈ zW := zIn 368 (by decide +kernel) (by decide +kernel)
theorem wd_371 : (Cond.code yX5_needPiece cX5_needPiece 2 none) ∈ zW := zIn 371 (by decide +kernel) (by decide +kernel)
theorem wd_370 : (Cond.instanceMethod yX5_needPiece) ∈ zW := zIn 370 (by decide +kernel) (by decide +kernel)
theorem wp_10 : (Cond.selects RX5 yX5_needPiece yX5_needPiece) ∈ zW := zInS 10 (by decide +kernel) (by decide +kernel)
theorem wd_159 : (Cond.fieldLink RX5 18 "SnippetBank" "pieces" "[LSnippetBank$Piece;") ∈ zW := zIn 159 (by decide +kernel) (by decide +kernel)
theorem wd_80 : (Cond.fieldLink RX5 101 "SnippetBank$Piece" "row" "LSnippetBank$Row;") ∈ zW := zIn 80 (by decide +kernel) (by decide +kernel)
theorem wd_34 : (Cond.fieldLink RX5 131 "SnippetBank$Row" "printCount" "I") ∈ zW := zIn 34 (by decide +kernel) (by decide +kernel)
theorem wd_82 : (Cond.fieldLink RX5 134 "SnippetBank$Piece" "own" "I") ∈ zW := zIn 82 (by decide +kernel) (by decide +kernel)
theorem wd_164 : (Cond.fieldLink RX5 46 "SnippetBank" "binding" "LSnippetBank$Binding;") ∈ zW := zIn 164 (by decide +kernel) (by decide +kernel)
theorem wd_59 : (Cond.fieldLink RX0 9 "SnippetBank$Binding" "sets" "[I") ∈ zW := zIn 59 (by decide +kernel) (by decide +kernel)
theorem wd_314 : (Cond.methodLink RX5 137 yX0_licencesOf) ∈ zW := zIn 314 (by decide +kernel) (by decide +kernel)
theorem wd_317 : (Cond.code yX0_licencesOf cX0_licencesOf 2 (some .int)) ∈ zW := zIn 317 (by decide +kernel) (by decide +kernel)
theorem wd_3 : (Cond.initialized RX0) ∈ zW := zIn 3 (by decide +kernel) (by decide +kernel)
theorem wd_315 : (Cond.instanceMethod yX0_licencesOf) ∈ zW := zIn 315 (by decide +kernel) (by decide +kernel)
theorem wd_316 : (Cond.selects RX0 yX0_licencesOf yX0_licencesOf) ∈ zW := zIn 316 (by decide +kernel) (by decide +kernel)
theorem wd_84 : (Cond.fieldLink RX5 141 "SnippetBank$Piece" "freed" "I") ∈ zW := zIn 84 (by decide +kernel) (by decide +kernel)
theorem wd_392 : (Cond.methodLink RX5 188 yX5_hasBit) ∈ zW := zIn 392 (by decide +kernel) (by decide +kernel)
theorem wd_324 : (Cond.code yX5_hasBit cX5_hasBit 2 (some .boolean)) ∈ zW := zIn 324 (by decide +kernel) (by decide +kernel)
theorem wd_323 : (Cond.static yX5_hasBit) ∈ zW := zIn 323 (by decide +kernel) (by decide +kernel)
theorem wd_388 : (Cond.methodLink RX5 144 yX5_offspring) ∈ zW := zIn 388 (by decide +kernel) (by decide +kernel)
theorem wd_391 : (Cond.code yX5_offspring cX5_offspring 4 (some .int)) ∈ zW := zIn 391 (by decide +kernel) (by decide +kernel)
theorem wd_390 : (Cond.instanceMethod yX5_offspring) ∈ zW := zIn 390 (by decide +kernel) (by decide +kernel)
theorem wp_11 : (Cond.selects RX5 yX5_offspring yX5_offspring) ∈ zW := zInS 11 (by decide +kernel) (by decide +kernel)
theorem wd_133 : (Cond.fieldLink RX3 24 "SnippetBank$Project" "nodes" "I") ∈ zW := zIn 133 (by decide +kernel) (by decide +kernel)
theorem wd_130 : (Cond.fieldLink RX3 18 "SnippetBank$Project" "contents" "[I") ∈ zW := zIn 130 (by decide +kernel) (by decide +kernel)
theorem wd_397 : (Cond.methodLink RX5 367 yX3_usesOf) ∈ zW := zIn 397 (by decide +kernel) (by decide +kernel)
theorem wd_400 : (Cond.code yX3_usesOf cX3_usesOf 4 (some .int)) ∈ zW := zIn 400 (by decide +kernel) (by decide +kernel)
theorem wd_6 : (Cond.initialized RX3) ∈ zW := zIn 6 (by decide +kernel) (by decide +kernel)
theorem wd_398 : (Cond.instanceMethod yX3_usesOf) ∈ zW := zIn 398 (by decide +kernel) (by decide +kernel)
theorem wd_399 : (Cond.selects RX3 yX3_usesOf yX3_usesOf) ∈ zW := zIn 399 (by decide +kernel) (by decide +kernel)
theorem wd_393 : (Cond.methodLink RX5 147 yX5_usesOf) ∈ zW := zIn 393 (by decide +kernel) (by decide +kernel)
theorem wd_396 : (Cond.code yX5_usesOf cX5_usesOf 4 (some .int)) ∈ zW := zIn 396 (by decide +kernel) (by decide +kernel)
theorem wd_395 : (Cond.instanceMethod yX5_usesOf) ∈ zW := zIn 395 (by decide +kernel) (by decide +kernel)
theorem wp_12 : (Cond.selects RX5 yX5_usesOf yX5_usesOf) ∈ zW := zInS 12 (by decide +kernel) (by decide +kernel)
theorem wd_607 : (Cond.methodLink RX5 312 yX5_ofPiece) ∈ zW := zIn 607 (by decide +kernel) (by decide +kernel)
theorem wd_367 : (Cond.code yX5_ofPiece cX5_ofPiece 4 (some .int)) ∈ zW := zIn 367 (by decide +kernel) (by decide +kernel)
theorem wd_365 : (Cond.instanceMethod yX5_ofPiece) ∈ zW := zIn 365 (by decide +kernel) (by decide +kernel)
theorem wd_366 : (Cond.selects RX5 yX5_ofPiece yX5_ofPiece) ∈ zW := zIn 366 (by decide +kernel) (by decide +kernel)
theorem wd_33 : (Cond.fieldLink RX4 22 "SnippetBank$Row" "printCount" "I") ∈ zW := zIn 33 (by decide +kernel) (by decide +kernel)
theorem wd_299 : (Cond.methodLink RX4 28 yJ9_min_7cf53) ∈ zW := zIn 299 (by decide +kernel) (by decide +kernel)
theorem wd_300 : (Cond.static yJ9_min_7cf53) ∈ zW := zIn 300 (by decide +kernel) (by decide +kernel)
theorem wd_14 : (Cond.initialized RJ9) ∈ zW := zIn 14 (by decide +kernel) (by decide +kernel)
theorem wd_301 : (Cond.code yJ9_min_7cf53 cJ9_min_7cf53 2 (some .int)) ∈ zW := zIn 301 (by decide +kernel) (by decide +kernel)
theorem wd_30 : (Cond.fieldLink RX4 15 "SnippetBank$Row" "prints" "[I") ∈ zW := zIn 30 (by decide +kernel) (by decide +kernel)
theorem wd_287 : (Cond.methodLink RX4 34 yX4_hasPrint) ∈ zW := zIn 287 (by decide +kernel) (by decide +kernel)
theorem wd_290 : (Cond.code yX4_hasPrint cX4_hasPrint 3 (some .boolean)) ∈ zW := zIn 290 (by decide +kernel) (by decide +kernel)
theorem wd_2 : (Cond.initialized RX4) ∈ zW := zIn 2 (by decide +kernel) (by decide +kernel)
theorem wd_289 : (Cond.instanceMethod yX4_hasPrint) ∈ zW := zIn 289 (by decide +kernel) (by decide +kernel)
theorem wp_4 : (Cond.selects RX4 yX4_hasPrint yX4_hasPrint) ∈ zW := zInS 4 (by decide +kernel) (by decide +kernel)
theorem wd_295 : (Cond.methodLink RX5 127 yX4_shareWith) ∈ zW := zIn 295 (by decide +kernel) (by decide +kernel)
theorem wd_298 : (Cond.code yX4_shareWith cX4_shareWith 5 (some .int)) ∈ zW := zIn 298 (by decide +kernel) (by decide +kernel)
theorem wd_296 : (Cond.instanceMethod yX4_shareWith) ∈ zW := zIn 296 (by decide +kernel) (by decide +kernel)
theorem wd_297 : (Cond.selects RX4 yX4_shareWith yX4_shareWith) ∈ zW := zIn 297 (by decide +kernel) (by decide +kernel)
theorem wd_608 : (Cond.methodLink RX5 316 yX5_scan) ∈ zW := zIn 608 (by decide +kernel) (by decide +kernel)
theorem wd_547 : (Cond.code yX5_scan cX5_scan 2 (some .int)) ∈ zW := zIn 547 (by decide +kernel) (by decide +kernel)
theorem wd_545 : (Cond.instanceMethod yX5_scan) ∈ zW := zIn 545 (by decide +kernel) (by decide +kernel)
theorem wd_546 : (Cond.selects RX5 yX5_scan yX5_scan) ∈ zW := zIn 546 (by decide +kernel) (by decide +kernel)
theorem wd_160 : (Cond.fieldLink RX5 24 "SnippetBank" "shares" "[[I") ∈ zW := zIn 160 (by decide +kernel) (by decide +kernel)
theorem wd_609 : (Cond.methodLink RX5 319 yX5_share) ∈ zW := zIn 609 (by decide +kernel) (by decide +kernel)
theorem wd_612 : (Cond.code yX5_share cX5_share 3 (some .int)) ∈ zW := zIn 612 (by decide +kernel) (by decide +kernel)
theorem wd_610 : (Cond.instanceMethod yX5_share) ∈ zW := zIn 610 (by decide +kernel) (by decide +kernel)
theorem wd_611 : (Cond.selects RX5 yX5_share yX5_share) ∈ zW := zIn 611 (by decide +kernel) (by decide +kernel)
theorem wd_603 : (Cond.methodLink RX5 298 yX5_foldPiece) ∈ zW := zIn 603 (by decide +kernel) (by decide +kernel)
theorem wd_606 : (Cond.code yX5_foldPiece cX5_foldPiece 7 (some .long)) ∈ zW := zIn 606 (by decide +kernel) (by decide +kernel)
theorem wd_605 : (Cond.instanceMethod yX5_foldPiece) ∈ zW := zIn 605 (by decide +kernel) (by decide +kernel)
theorem wp_23 : (Cond.selects RX5 yX5_foldPiece yX5_foldPiece) ∈ zW := zInS 23 (by decide +kernel) (by decide +kernel)
theorem wd_436 : (Cond.methodLink RX5 177 yX5_needLicence) ∈ zW := zIn 436 (by decide +kernel) (by decide +kernel)
theorem wd_439 : (Cond.code yX5_needLicence cX5_needLicence 2 none) ∈ zW := zIn 439 (by decide +kernel) (by decide +kernel)
theorem wd_438 : (Cond.instanceMethod yX5_needLicence) ∈ zW := zIn 438 (by decide +kernel) (by decide +kernel)
theorem wp_14 : (Cond.selects RX5 yX5_needLicence yX5_needLicence) ∈ zW := zInS 14 (by decide +kernel) (by decide +kernel)
theorem wd_162 : (Cond.fieldLink RX5 33 "SnippetBank" "licences" "[LSnippetBank$Licence;") ∈ zW := zIn 162 (by decide +kernel) (by decide +kernel)
theorem wd_99 : (Cond.fieldLink RX5 161 "SnippetBank$Licence" "asks" "I") ∈ zW := zIn 99 (by decide +kernel) (by decide +kernel)
theorem wd_101 : (Cond.fieldLink RX5 164 "SnippetBank$Licence" "forbids" "I") ∈ zW := zIn 101 (by decide +kernel) (by decide +kernel)
theorem wd_104 : (Cond.fieldLink RX5 167 "SnippetBank$Licence" "isStrong" "Z") ∈ zW := zIn 104 (by decide +kernel) (by decide +kernel)
theorem wd_106 : (Cond.fieldLink RX5 171 "SnippetBank$Licence" "patience" "I") ∈ zW := zIn 106 (by decide +kernel) (by decide +kernel)
theorem wd_109 : (Cond.fieldLink RX5 180 "SnippetBank$Licence" "rivals" "I") ∈ zW := zIn 109 (by decide +kernel) (by decide +kernel)
theorem wd_441 : (Cond.methodLink RX5 183 yX5_piecesBoundBy) ∈ zW := zIn 441 (by decide +kernel) (by decide +kernel)
theorem wd_444 : (Cond.code yX5_piecesBoundBy cX5_piecesBoundBy 4 (some .int)) ∈ zW := zIn 444 (by decide +kernel) (by decide +kernel)
theorem wd_443 : (Cond.instanceMethod yX5_piecesBoundBy) ∈ zW := zIn 443 (by decide +kernel) (by decide +kernel)
theorem wp_15 : (Cond.selects RX5 yX5_piecesBoundBy yX5_piecesBoundBy) ∈ zW := zInS 15 (by decide +kernel) (by decide +kernel)
theorem wd_617 : (Cond.methodLink RX5 322 yX5_ofLicence) ∈ zW := zIn 617 (by decide +kernel) (by decide +kernel)
theorem wd_435 : (Cond.code yX5_ofLicence cX5_ofLicence 4 (some .int)) ∈ zW := zIn 435 (by decide +kernel) (by decide +kernel)
theorem wd_433 : (Cond.instanceMethod yX5_ofLicence) ∈ zW := zIn 433 (by decide +kernel) (by decide +kernel)
theorem wd_434 : (Cond.selects RX5 yX5_ofLicence yX5_ofLicence) ∈ zW := zIn 434 (by decide +kernel) (by decide +kernel)
theorem wd_613 : (Cond.methodLink RX5 301 yX5_foldLicence) ∈ zW := zIn 613 (by decide +kernel) (by decide +kernel)
theorem wd_616 : (Cond.code yX5_foldLicence cX5_foldLicence 7 (some .long)) ∈ zW := zIn 616 (by decide +kernel) (by decide +kernel)
theorem wd_615 : (Cond.instanceMethod yX5_foldLicence) ∈ zW := zIn 615 (by decide +kernel) (by decide +kernel)
theorem wp_24 : (Cond.selects RX5 yX5_foldLicence yX5_foldLicence) ∈ zW := zInS 24 (by decide +kernel) (by decide +kernel)
theorem wd_468 : (Cond.methodLink RX5 234 yX5_needProject) ∈ zW := zIn 468 (by decide +kernel) (by decide +kernel)
theorem wd_471 : (Cond.code yX5_needProject cX5_needProject 2 none) ∈ zW := zIn 471 (by decide +kernel) (by decide +kernel)
theorem wd_470 : (Cond.instanceMethod yX5_needProject) ∈ zW := zIn 470 (by decide +kernel) (by decide +kernel)
theorem wp_17 : (Cond.selects RX5 yX5_needProject yX5_needProject) ∈ zW := zInS 17 (by decide +kernel) (by decide +kernel)
theorem wd_128 : (Cond.fieldLink RX3 15 "SnippetBank$Project" "above" "[I") ∈ zW := zIn 128 (by decide +kernel) (by decide +kernel)
theorem wd_350 : (Cond.methodLink RX3 41 yX3_isFar) ∈ zW := zIn 350 (by decide +kernel) (by decide +kernel)
theorem wd_353 : (Cond.code yX3_isFar cX3_isFar 3 (some .boolean)) ∈ zW := zIn 353 (by decide +kernel) (by decide +kernel)
theorem wd_352 : (Cond.instanceMethod yX3_isFar) ∈ zW := zIn 352 (by decide +kernel) (by decide +kernel)
theorem wp_9 : (Cond.selects RX3 yX3_isFar yX3_isFar) ∈ zW := zInS 9 (by decide +kernel) (by decide +kernel)
theorem wd_61 : (Cond.fieldLink RX0 18 "SnippetBank$Binding" "rivals" "[I") ∈ zW := zIn 61 (by decide +kernel) (by decide +kernel)
theorem wd_62 : (Cond.fieldLink RX0 21 "SnippetBank$Binding" "farRivals" "[I") ∈ zW := zIn 62 (by decide +kernel) (by decide +kernel)
theorem wd_354 : (Cond.methodLink RX3 44 yX0_isClash) ∈ zW := zIn 354 (by decide +kernel) (by decide +kernel)
theorem wd_357 : (Cond.code yX0_isClash cX0_isClash 5 (some .boolean)) ∈ zW := zIn 357 (by decide +kernel) (by decide +kernel)
theorem wd_355 : (Cond.instanceMethod yX0_isClash) ∈ zW := zIn 355 (by decide +kernel) (by decide +kernel)
theorem wd_356 : (Cond.selects RX0 yX0_isClash yX0_isClash) ∈ zW := zIn 356 (by decide +kernel) (by decide +kernel)
theorem wd_346 : (Cond.methodLink RX3 50 yX3_clashesOf) ∈ zW := zIn 346 (by decide +kernel) (by decide +kernel)
theorem wd_349 : (Cond.code yX3_clashesOf cX3_clashesOf 7 (some .int)) ∈ zW := zIn 349 (by decide +kernel) (by decide +kernel)
theorem wd_347 : (Cond.instanceMethod yX3_clashesOf) ∈ zW := zIn 347 (by decide +kernel) (by decide +kernel)
theorem wd_348 : (Cond.selects RX3 yX3_clashesOf yX3_clashesOf) ∈ zW := zIn 348 (by decide +kernel) (by decide +kernel)
theorem wd_358 : (Cond.methodLink RX3 54 yJ6_bitCount_0f7a4) ∈ zW := zIn 358 (by decide +kernel) (by decide +kernel)
theorem wd_504 : (Cond.methodLink RX5 259 yX3_countClashes) ∈ zW := zIn 504 (by decide +kernel) (by decide +kernel)
theorem wd_345 : (Cond.code yX3_countClashes cX3_countClashes 5 (some .int)) ∈ zW := zIn 345 (by decide +kernel) (by decide +kernel)
theorem wd_343 : (Cond.instanceMethod yX3_countClashes) ∈ zW := zIn 343 (by decide +kernel) (by decide +kernel)
theorem wd_344 : (Cond.selects RX3 yX3_countClashes yX3_countClashes) ∈ zW := zIn 344 (by decide +kernel) (by decide +kernel)
theorem wd_60 : (Cond.fieldLink RX0 15 "SnippetBank$Binding" "asked" "[I") ∈ zW := zIn 60 (by decide +kernel) (by decide +kernel)
theorem wd_338 : (Cond.methodLink RX3 60 yX0_dutiesOf) ∈ zW := zIn 338 (by decide +kernel) (by decide +kernel)
theorem wd_341 : (Cond.code yX0_dutiesOf cX0_dutiesOf 2 (some .int)) ∈ zW := zIn 341 (by decide +kernel) (by decide +kernel)
theorem wd_339 : (Cond.instanceMethod yX0_dutiesOf) ∈ zW := zIn 339 (by decide +kernel) (by decide +kernel)
theorem wd_340 : (Cond.selects RX0 yX0_dutiesOf yX0_dutiesOf) ∈ zW := zIn 340 (by decide +kernel) (by decide +kernel)
theorem wd_135 : (Cond.fieldLink RX3 28 "SnippetBank$Project" "notices" "I") ∈ zW := zIn 135 (by decide +kernel) (by decide +kernel)
theorem wd_505 : (Cond.methodLink RX5 263 yX3_duties) ∈ zW := zIn 505 (by decide +kernel) (by decide +kernel)
theorem wd_336 : (Cond.code yX3_duties cX3_duties 4 (some .int)) ∈ zW := zIn 336 (by decide +kernel) (by decide +kernel)
theorem wd_334 : (Cond.instanceMethod yX3_duties) ∈ zW := zIn 334 (by decide +kernel) (by decide +kernel)
theorem wd_335 : (Cond.selects RX3 yX3_duties yX3_duties) ∈ zW := zIn 335 (by decide +kernel) (by decide +kernel)
theorem wd_136 : (Cond.fieldLink RX5 239 "SnippetBank$Project" "notices" "I") ∈ zW := zIn 136 (by decide +kernel) (by decide +kernel)
theorem wd_140 : (Cond.fieldLink RX5 253 "SnippetBank$Project" "recalls" "I") ∈ zW := zIn 140 (by decide +kernel) (by decide +kernel)
theorem wd_622 : (Cond.methodLink RX5 325 yX5_ofProject) ∈ zW := zIn 622 (by decide +kernel) (by decide +kernel)
theorem wd_502 : (Cond.code yX5_ofProject cX5_ofProject 4 (some .int)) ∈ zW := zIn 502 (by decide +kernel) (by decide +kernel)
theorem wd_500 : (Cond.instanceMethod yX5_ofProject) ∈ zW := zIn 500 (by decide +kernel) (by decide +kernel)
theorem wd_501 : (Cond.selects RX5 yX5_ofProject yX5_ofProject) ∈ zW := zIn 501 (by decide +kernel) (by decide +kernel)
theorem wd_132 : (Cond.fieldLink RX3 21 "SnippetBank$Project" "clashes" "[I") ∈ zW := zIn 132 (by decide +kernel) (by decide +kernel)
theorem wd_578 : (Cond.methodLink RX3 74 yX3_takeClashes) ∈ zW := zIn 578 (by decide +kernel) (by decide +kernel)
theorem wd_581 : (Cond.code yX3_takeClashes cX3_takeClashes 4 (some .int)) ∈ zW := zIn 581 (by decide +kernel) (by decide +kernel)
theorem wd_580 : (Cond.instanceMethod yX3_takeClashes) ∈ zW := zIn 580 (by decide +kernel) (by decide +kernel)
theorem wp_21 : (Cond.selects RX3 yX3_takeClashes yX3_takeClashes) ∈ zW := zInS 21 (by decide +kernel) (by decide +kernel)
theorem wd_582 : (Cond.methodLink RX3 77 yX3_leavesNone) ∈ zW := zIn 582 (by decide +kernel) (by decide +kernel)
theorem wd_585 : (Cond.code yX3_leavesNone cX3_leavesNone 3 (some .boolean)) ∈ zW := zIn 585 (by decide +kernel) (by decide +kernel)
theorem wd_584 : (Cond.instanceMethod yX3_leavesNone) ∈ zW := zIn 584 (by decide +kernel) (by decide +kernel)
theorem wp_22 : (Cond.selects RX3 yX3_leavesNone yX3_leavesNone) ∈ zW := zInS 22 (by decide +kernel) (by decide +kernel)
theorem wd_574 : (Cond.methodLink RX5 286 yX3_fewestToEmpty) ∈ zW := zIn 574 (by decide +kernel) (by decide +kernel)
theorem wd_577 : (Cond.code yX3_fewestToEmpty cX3_fewestToEmpty 6 (some .int)) ∈ zW := zIn 577 (by decide +kernel) (by decide +kernel)
theorem wd_575 : (Cond.instanceMethod yX3_fewestToEmpty) ∈ zW := zIn 575 (by decide +kernel) (by decide +kernel)
theorem wd_576 : (Cond.selects RX3 yX3_fewestToEmpty yX3_fewestToEmpty) ∈ zW := zIn 576 (by decide +kernel) (by decide +kernel)
theorem wd_623 : (Cond.methodLink RX5 328 yX5_remedy) ∈ zW := zIn 623 (by decide +kernel) (by decide +kernel)
theorem wd_573 : (Cond.code yX5_remedy cX5_remedy 2 (some .int)) ∈ zW := zIn 573 (by decide +kernel) (by decide +kernel)
theorem wd_571 : (Cond.instanceMethod yX5_remedy) ∈ zW := zIn 571 (by decide +kernel) (by decide +kernel)
theorem wd_572 : (Cond.selects RX5 yX5_remedy yX5_remedy) ∈ zW := zIn 572 (by decide +kernel) (by decide +kernel)
theorem wd_473 : (Cond.methodLink RX5 331 yX3_hasNode) ∈ zW := zIn 473 (by decide +kernel) (by decide +kernel)
theorem wd_476 : (Cond.code yX3_hasNode cX3_hasNode 2 (some .boolean)) ∈ zW := zIn 476 (by decide +kernel) (by decide +kernel)
theorem wd_474 : (Cond.instanceMethod yX3_hasNode) ∈ zW := zIn 474 (by decide +kernel) (by decide +kernel)
theorem wd_475 : (Cond.selects RX3 yX3_hasNode yX3_hasNode) ∈ zW := zIn 475 (by decide +kernel) (by decide +kernel)
theorem wd_464 : (Cond.methodLink RX5 196 yX5_needNode) ∈ zW := zIn 464 (by decide +kernel) (by decide +kernel)
theorem wd_467 : (Cond.code yX5_needNode cX5_needNode 3 none) ∈ zW := zIn 467 (by decide +kernel) (by decide +kernel)
theorem wd_466 : (Cond.instanceMethod yX5_needNode) ∈ zW := zIn 466 (by decide +kernel) (by decide +kernel)
theorem wp_16 : (Cond.selects RX5 yX5_needNode yX5_needNode) ∈ zW := zInS 16 (by decide +kernel) (by decide +kernel)
theorem wd_127 : (Cond.fieldLink RX5 217 "SnippetBank$Project" "parents" "[I") ∈ zW := zIn 127 (by decide +kernel) (by decide +kernel)
theorem wd_131 : (Cond.fieldLink RX5 209 "SnippetBank$Project" "contents" "[I") ∈ zW := zIn 131 (by decide +kernel) (by decide +kernel)
theorem wd_632 : (Cond.methodLink RX5 220 yX3_clashesOf) ∈ zW := zIn 632 (by decide +kernel) (by decide +kernel)
theorem wd_129 : (Cond.fieldLink RX5 224 "SnippetBank$Project" "above" "[I") ∈ zW := zIn 129 (by decide +kernel) (by decide +kernel)
theorem wd_628 : (Cond.methodLink RX5 339 yX5_ofNode) ∈ zW := zIn 628 (by decide +kernel) (by decide +kernel)
theorem wd_631 : (Cond.code yX5_ofNode cX5_ofNode 5 (some .int)) ∈ zW := zIn 631 (by decide +kernel) (by decide +kernel)
theorem wd_629 : (Cond.instanceMethod yX5_ofNode) ∈ zW := zIn 629 (by decide +kernel) (by decide +kernel)
theorem wd_630 : (Cond.selects RX5 yX5_ofNode yX5_ofNode) ∈ zW := zIn 630 (by decide +kernel) (by decide +kernel)
theorem wd_634 : (Cond.methodLink RX5 343 yX5_substitute) ∈ zW := zIn 634 (by decide +kernel) (by decide +kernel)
theorem wd_637 : (Cond.code yX5_substitute cX5_substitute 9 (some .int)) ∈ zW := zIn 637 (by decide +kernel) (by decide +kernel)
theorem wd_635 : (Cond.instanceMethod yX5_substitute) ∈ zW := zIn 635 (by decide +kernel) (by decide +kernel)
theorem wd_636 : (Cond.selects RX5 yX5_substitute yX5_substitute) ∈ zW := zIn 636 (by decide +kernel) (by decide +kernel)
theorem wd_624 : (Cond.methodLink RX5 335 yX5_foldNode) ∈ zW := zIn 624 (by decide +kernel) (by decide +kernel)
theorem wd_627 : (Cond.code yX5_foldNode cX5_foldNode 8 (some .long)) ∈ zW := zIn 627 (by decide +kernel) (by decide +kernel)
theorem wd_626 : (Cond.instanceMethod yX5_foldNode) ∈ zW := zIn 626 (by decide +kernel) (by decide +kernel)
theorem wp_26 : (Cond.selects RX5 yX5_foldNode yX5_foldNode) ∈ zW := zInS 26 (by decide +kernel) (by decide +kernel)
theorem wd_618 : (Cond.methodLink RX5 304 yX5_foldProject) ∈ zW := zIn 618 (by decide +kernel) (by decide +kernel)
theorem wd_621 : (Cond.code yX5_foldProject cX5_foldProject 7 (some .long)) ∈ zW := zIn 621 (by decide +kernel) (by decide +kernel)
theorem wd_620 : (Cond.instanceMethod yX5_foldProject) ∈ zW := zIn 620 (by decide +kernel) (by decide +kernel)
theorem wp_25 : (Cond.selects RX5 yX5_foldProject yX5_foldProject) ∈ zW := zInS 25 (by decide +kernel) (by decide +kernel)
theorem wd_642 : (Cond.methodLink RX5 152 yX5_needNearness) ∈ zW := zIn 642 (by decide +kernel) (by decide +kernel)
theorem wd_644 : (Cond.code yX5_needNearness cX5_needNearness 1 none) ∈ zW := zIn 644 (by decide +kernel) (by decide +kernel)
theorem wd_643 : (Cond.static yX5_needNearness) ∈ zW := zIn 643 (by decide +kernel) (by decide +kernel)
theorem wd_165 : (Cond.fieldLink RX5 50 "SnippetBank" "supposed" "LSnippetBank$Binding;") ∈ zW := zIn 165 (by decide +kernel) (by decide +kernel)
theorem wd_103 : (Cond.fieldLink RX0 24 "SnippetBank$Licence" "isStrong" "Z") ∈ zW := zIn 103 (by decide +kernel) (by decide +kernel)
theorem wd_98 : (Cond.fieldLink RX0 34 "SnippetBank$Licence" "asks" "I") ∈ zW := zIn 98 (by decide +kernel) (by decide +kernel)
theorem wd_108 : (Cond.fieldLink RX0 38 "SnippetBank$Licence" "rivals" "I") ∈ zW := zIn 108 (by decide +kernel) (by decide +kernel)
theorem wd_318 : (Cond.methodLink RX5 363 yX0_put) ∈ zW := zIn 318 (by decide +kernel) (by decide +kernel)
theorem wd_321 : (Cond.code yX0_put cX0_put 7 none) ∈ zW := zIn 321 (by decide +kernel) (by decide +kernel)
theorem wd_319 : (Cond.instanceMethod yX0_put) ∈ zW := zIn 319 (by decide +kernel) (by decide +kernel)
theorem wd_320 : (Cond.selects RX0 yX0_put yX0_put) ∈ zW := zIn 320 (by decide +kernel) (by decide +kernel)
theorem wd_310 : (Cond.methodLink RX5 279 yX5_bind) ∈ zW := zIn 310 (by decide +kernel) (by decide +kernel)
theorem wd_313 : (Cond.code yX5_bind cX5_bind 9 none) ∈ zW := zIn 313 (by decide +kernel) (by decide +kernel)
theorem wd_312 : (Cond.instanceMethod yX5_bind) ∈ zW := zIn 312 (by decide +kernel) (by decide +kernel)
theorem wp_8 : (Cond.selects RX5 yX5_bind yX5_bind) ∈ zW := zInS 8 (by decide +kernel) (by decide +kernel)
theorem wd_638 : (Cond.methodLink RX5 307 yX5_boundWith) ∈ zW := zIn 638 (by decide +kernel) (by decide +kernel)
theorem wd_641 : (Cond.code yX5_boundWith cX5_boundWith 4 (some .int)) ∈ zW := zIn 641 (by decide +kernel) (by decide +kernel)
theorem wd_639 : (Cond.instanceMethod yX5_boundWith) ∈ zW := zIn 639 (by decide +kernel) (by decide +kernel)
theorem wd_640 : (Cond.selects RX5 yX5_boundWith yX5_boundWith) ∈ zW := zIn 640 (by decide +kernel) (by decide +kernel)
theorem wd_31 : (Cond.fieldLink RX4 18 "SnippetBank$Row" "length" "I") ∈ zW := zIn 31 (by decide +kernel) (by decide +kernel)
theorem wd_29 : (Cond.fieldLink RX4 9 "SnippetBank$Row" "tokens" "[I") ∈ zW := zIn 29 (by decide +kernel) (by decide +kernel)
theorem wd_283 : (Cond.methodLink RX4 42 yX4_firstPlace) ∈ zW := zIn 283 (by decide +kernel) (by decide +kernel)
theorem wd_286 : (Cond.code yX4_firstPlace cX4_firstPlace 4 (some .int)) ∈ zW := zIn 286 (by decide +kernel) (by decide +kernel)
theorem wd_285 : (Cond.instanceMethod yX4_firstPlace) ∈ zW := zIn 285 (by decide +kernel) (by decide +kernel)
theorem wp_3 : (Cond.selects RX4 yX4_firstPlace yX4_firstPlace) ∈ zW := zInS 3 (by decide +kernel) (by decide +kernel)
theorem wd_279 : (Cond.methodLink RX4 38 yX4_printAt) ∈ zW := zIn 279 (by decide +kernel) (by decide +kernel)
theorem wd_282 : (Cond.code yX4_printAt cX4_printAt 5 (some .int)) ∈ zW := zIn 282 (by decide +kernel) (by decide +kernel)
theorem wd_281 : (Cond.instanceMethod yX4_printAt) ∈ zW := zIn 281 (by decide +kernel) (by decide +kernel)
theorem wp_2 : (Cond.selects RX4 yX4_printAt yX4_printAt) ∈ zW := zInS 2 (by decide +kernel) (by decide +kernel)
theorem wd_275 : (Cond.methodLink RX4 25 yX4_takePrints) ∈ zW := zIn 275 (by decide +kernel) (by decide +kernel)
theorem wd_278 : (Cond.code yX4_takePrints cX4_takePrints 3 none) ∈ zW := zIn 278 (by decide +kernel) (by decide +kernel)
theorem wd_277 : (Cond.instanceMethod yX4_takePrints) ∈ zW := zIn 277 (by decide +kernel) (by decide +kernel)
theorem wp_1 : (Cond.selects RX4 yX4_takePrints yX4_takePrints) ∈ zW := zInS 1 (by decide +kernel) (by decide +kernel)
theorem wd_554 : (Cond.methodLink RX5 87 yX4_append) ∈ zW := zIn 554 (by decide +kernel) (by decide +kernel)
theorem wd_557 : (Cond.code yX4_append cX4_append 2 none) ∈ zW := zIn 557 (by decide +kernel) (by decide +kernel)
theorem wd_555 : (Cond.instanceMethod yX4_append) ∈ zW := zIn 555 (by decide +kernel) (by decide +kernel)
theorem wd_556 : (Cond.selects RX4 yX4_append yX4_append) ∈ zW := zIn 556 (by decide +kernel) (by decide +kernel)
theorem wd_563 : (Cond.methodLink RX5 93 yX4_dropFirst) ∈ zW := zIn 563 (by decide +kernel) (by decide +kernel)
theorem wd_566 : (Cond.code yX4_dropFirst cX4_dropFirst 4 none) ∈ zW := zIn 566 (by decide +kernel) (by decide +kernel)
theorem wd_564 : (Cond.instanceMethod yX4_dropFirst) ∈ zW := zIn 564 (by decide +kernel) (by decide +kernel)
theorem wd_565 : (Cond.selects RX4 yX4_dropFirst yX4_dropFirst) ∈ zW := zIn 565 (by decide +kernel) (by decide +kernel)
theorem wd_271 : (Cond.methodLink RX5 104 yX4_become) ∈ zW := zIn 271 (by decide +kernel) (by decide +kernel)
theorem wd_274 : (Cond.code yX4_become cX4_become 5 none) ∈ zW := zIn 274 (by decide +kernel) (by decide +kernel)
theorem wd_272 : (Cond.instanceMethod yX4_become) ∈ zW := zIn 272 (by decide +kernel) (by decide +kernel)
theorem wd_273 : (Cond.selects RX4 yX4_become yX4_become) ∈ zW := zIn 273 (by decide +kernel) (by decide +kernel)
theorem wd_291 : (Cond.methodLink RX5 112 yX5_takeShares) ∈ zW := zIn 291 (by decide +kernel) (by decide +kernel)
theorem wd_294 : (Cond.code yX5_takeShares cX5_takeShares 5 none) ∈ zW := zIn 294 (by decide +kernel) (by decide +kernel)
theorem wd_293 : (Cond.instanceMethod yX5_takeShares) ∈ zW := zIn 293 (by decide +kernel) (by decide +kernel)
theorem wp_5 : (Cond.selects RX5 yX5_takeShares yX5_takeShares) ∈ zW := zInS 5 (by decide +kernel) (by decide +kernel)
theorem wd_306 : (Cond.methodLink RX5 360 yX5_takeOrigins) ∈ zW := zIn 306 (by decide +kernel) (by decide +kernel)
theorem wd_309 : (Cond.code yX5_takeOrigins cX5_takeOrigins 4 none) ∈ zW := zIn 309 (by decide +kernel) (by decide +kernel)
theorem wd_308 : (Cond.instanceMethod yX5_takeOrigins) ∈ zW := zIn 308 (by decide +kernel) (by decide +kernel)
theorem wp_7 : (Cond.selects RX5 yX5_takeOrigins yX5_takeOrigins) ∈ zW := zInS 7 (by decide +kernel) (by decide +kernel)
theorem wd_137 : (Cond.fieldLink RX3 31 "SnippetBank$Project" "state" "I") ∈ zW := zIn 137 (by decide +kernel) (by decide +kernel)
theorem wd_333 : (Cond.methodLink RX3 63 yX3_duties) ∈ zW := zIn 333 (by decide +kernel) (by decide +kernel)
theorem wd_342 : (Cond.methodLink RX3 67 yX3_countClashes) ∈ zW := zIn 342 (by decide +kernel) (by decide +kernel)
theorem wd_329 : (Cond.methodLink RX3 70 yX3_isInOrder) ∈ zW := zIn 329 (by decide +kernel) (by decide +kernel)
theorem wd_332 : (Cond.code yX3_isInOrder cX3_isInOrder 2 (some .boolean)) ∈ zW := zIn 332 (by decide +kernel) (by decide +kernel)
theorem wd_330 : (Cond.instanceMethod yX3_isInOrder) ∈ zW := zIn 330 (by decide +kernel) (by decide +kernel)
theorem wd_331 : (Cond.selects RX3 yX3_isInOrder yX3_isInOrder) ∈ zW := zIn 331 (by decide +kernel) (by decide +kernel)
theorem wd_325 : (Cond.methodLink RX5 283 yX3_isRecalledUnder) ∈ zW := zIn 325 (by decide +kernel) (by decide +kernel)
theorem wd_328 : (Cond.code yX3_isRecalledUnder cX3_isRecalledUnder 2 (some .boolean)) ∈ zW := zIn 328 (by decide +kernel) (by decide +kernel)
theorem wd_326 : (Cond.instanceMethod yX3_isRecalledUnder) ∈ zW := zIn 326 (by decide +kernel) (by decide +kernel)
theorem wd_327 : (Cond.selects RX3 yX3_isRecalledUnder yX3_isRecalledUnder) ∈ zW := zIn 327 (by decide +kernel) (by decide +kernel)
theorem wd_302 : (Cond.methodLink RX5 115 yX5_settle) ∈ zW := zIn 302 (by decide +kernel) (by decide +kernel)
theorem wd_305 : (Cond.code yX5_settle cX5_settle 3 (some .int)) ∈ zW := zIn 305 (by decide +kernel) (by decide +kernel)
theorem wd_304 : (Cond.instanceMethod yX5_settle) ∈ zW := zIn 304 (by decide +kernel) (by decide +kernel)
theorem wp_6 : (Cond.selects RX5 yX5_settle yX5_settle) ∈ zW := zInS 6 (by decide +kernel) (by decide +kernel)
theorem wd_97 : (Cond.fieldLink RX1 7 "SnippetBank$Licence" "asks" "I") ∈ zW := zIn 97 (by decide +kernel) (by decide +kernel)
theorem wd_100 : (Cond.fieldLink RX1 13 "SnippetBank$Licence" "forbids" "I") ∈ zW := zIn 100 (by decide +kernel) (by decide +kernel)
theorem wd_428 : (Cond.methodLink RX5 356 yX1_isRivalOf) ∈ zW := zIn 428 (by decide +kernel) (by decide +kernel)
theorem wd_431 : (Cond.code yX1_isRivalOf cX1_isRivalOf 2 (some .boolean)) ∈ zW := zIn 431 (by decide +kernel) (by decide +kernel)
theorem wd_5 : (Cond.initialized RX1) ∈ zW := zIn 5 (by decide +kernel) (by decide +kernel)
theorem wd_429 : (Cond.instanceMethod yX1_isRivalOf) ∈ zW := zIn 429 (by decide +kernel) (by decide +kernel)
theorem wd_430 : (Cond.selects RX1 yX1_isRivalOf yX1_isRivalOf) ∈ zW := zIn 430 (by decide +kernel) (by decide +kernel)
theorem wd_424 : (Cond.methodLink RX5 174 yX5_takeRivals) ∈ zW := zIn 424 (by decide +kernel) (by decide +kernel)
theorem wd_427 : (Cond.code yX5_takeRivals cX5_takeRivals 4 none) ∈ zW := zIn 427 (by decide +kernel) (by decide +kernel)
theorem wd_426 : (Cond.instanceMethod yX5_takeRivals) ∈ zW := zIn 426 (by decide +kernel) (by decide +kernel)
theorem wp_13 : (Cond.selects RX5 yX5_takeRivals yX5_takeRivals) ∈ zW := zInS 13 (by decide +kernel) (by decide +kernel)
theorem wd_478 : (Cond.methodLink RX5 200 yX3_firstFreeNode) ∈ zW := zIn 478 (by decide +kernel) (by decide +kernel)
theorem wd_481 : (Cond.code yX3_firstFreeNode cX3_firstFreeNode 2 (some .int)) ∈ zW := zIn 481 (by decide +kernel) (by decide +kernel)
theorem wd_479 : (Cond.instanceMethod yX3_firstFreeNode) ∈ zW := zIn 479 (by decide +kernel) (by decide +kernel)
theorem wd_480 : (Cond.selects RX3 yX3_firstFreeNode yX3_firstFreeNode) ∈ zW := zIn 480 (by decide +kernel) (by decide +kernel)
theorem wd_126 : (Cond.fieldLink RX3 9 "SnippetBank$Project" "parents" "[I") ∈ zW := zIn 126 (by decide +kernel) (by decide +kernel)
theorem wd_483 : (Cond.methodLink RX5 205 yX3_grow) ∈ zW := zIn 483 (by decide +kernel) (by decide +kernel)
theorem wd_486 : (Cond.code yX3_grow cX3_grow 4 none) ∈ zW := zIn 486 (by decide +kernel) (by decide +kernel)
theorem wd_484 : (Cond.instanceMethod yX3_grow) ∈ zW := zIn 484 (by decide +kernel) (by decide +kernel)
theorem wd_485 : (Cond.selects RX3 yX3_grow yX3_grow) ∈ zW := zIn 485 (by decide +kernel) (by decide +kernel)
theorem wd_497 : (Cond.methodLink RX5 247 yX3_isInOrder) ∈ zW := zIn 497 (by decide +kernel) (by decide +kernel)
theorem zsw_0_4 {x : Int32} (h0 : ¬ x = 0) (h1 : ¬ x = 1) (h2 : ¬ x = 2) (h3 : ¬ x = 3) (h4 : ¬ x = 4) : x.toInt < 0 ∨ 4 < x.toInt := by
  have e0 : x.toInt ≠ 0 := fun q => h0 (Int32.toInt_inj.mp (q.trans (by decide)))
  have e1 : x.toInt ≠ 1 := fun q => h1 (Int32.toInt_inj.mp (q.trans (by decide)))
  have e2 : x.toInt ≠ 2 := fun q => h2 (Int32.toInt_inj.mp (q.trans (by decide)))
  have e3 : x.toInt ≠ 3 := fun q => h3 (Int32.toInt_inj.mp (q.trans (by decide)))
  have e4 : x.toInt ≠ 4 := fun q => h4 (Int32.toInt_inj.mp (q.trans (by decide)))
  omega
theorem zsw_0_5 {x : Int32} (h0 : ¬ x = 0) (h1 : ¬ x = 1) (h2 : ¬ x = 2) (h3 : ¬ x = 3) (h4 : ¬ x = 4) (h5 : ¬ x = 5) : x.toInt < 0 ∨ 5 < x.toInt := by
  have e0 : x.toInt ≠ 0 := fun q => h0 (Int32.toInt_inj.mp (q.trans (by decide)))
  have e1 : x.toInt ≠ 1 := fun q => h1 (Int32.toInt_inj.mp (q.trans (by decide)))
  have e2 : x.toInt ≠ 2 := fun q => h2 (Int32.toInt_inj.mp (q.trans (by decide)))
  have e3 : x.toInt ≠ 3 := fun q => h3 (Int32.toInt_inj.mp (q.trans (by decide)))
  have e4 : x.toInt ≠ 4 := fun q => h4 (Int32.toInt_inj.mp (q.trans (by decide)))
  have e5 : x.toInt ≠ 5 := fun q => h5 (Int32.toInt_inj.mp (q.trans (by decide)))
  omega
theorem zsw_0_6 {x : Int32} (h0 : ¬ x = 0) (h1 : ¬ x = 1) (h2 : ¬ x = 2) (h3 : ¬ x = 3) (h4 : ¬ x = 4) (h5 : ¬ x = 5) (h6 : ¬ x = 6) : x.toInt < 0 ∨ 6 < x.toInt := by
  have e0 : x.toInt ≠ 0 := fun q => h0 (Int32.toInt_inj.mp (q.trans (by decide)))
  have e1 : x.toInt ≠ 1 := fun q => h1 (Int32.toInt_inj.mp (q.trans (by decide)))
  have e2 : x.toInt ≠ 2 := fun q => h2 (Int32.toInt_inj.mp (q.trans (by decide)))
  have e3 : x.toInt ≠ 3 := fun q => h3 (Int32.toInt_inj.mp (q.trans (by decide)))
  have e4 : x.toInt ≠ 4 := fun q => h4 (Int32.toInt_inj.mp (q.trans (by decide)))
  have e5 : x.toInt ≠ 5 := fun q => h5 (Int32.toInt_inj.mp (q.trans (by decide)))
  have e6 : x.toInt ≠ 6 := fun q => h6 (Int32.toInt_inj.mp (q.trans (by decide)))
  omega
theorem zsw_0_7 {x : Int32} (h0 : ¬ x = 0) (h1 : ¬ x = 1) (h2 : ¬ x = 2) (h3 : ¬ x = 3) (h4 : ¬ x = 4) (h5 : ¬ x = 5) (h6 : ¬ x = 6) (h7 : ¬ x = 7) : x.toInt < 0 ∨ 7 < x.toInt := by
  have e0 : x.toInt ≠ 0 := fun q => h0 (Int32.toInt_inj.mp (q.trans (by decide)))
  have e1 : x.toInt ≠ 1 := fun q => h1 (Int32.toInt_inj.mp (q.trans (by decide)))
  have e2 : x.toInt ≠ 2 := fun q => h2 (Int32.toInt_inj.mp (q.trans (by decide)))
  have e3 : x.toInt ≠ 3 := fun q => h3 (Int32.toInt_inj.mp (q.trans (by decide)))
  have e4 : x.toInt ≠ 4 := fun q => h4 (Int32.toInt_inj.mp (q.trans (by decide)))
  have e5 : x.toInt ≠ 5 := fun q => h5 (Int32.toInt_inj.mp (q.trans (by decide)))
  have e6 : x.toInt ≠ 6 := fun q => h6 (Int32.toInt_inj.mp (q.trans (by decide)))
  have e7 : x.toInt ≠ 7 := fun q => h7 (Int32.toInt_inj.mp (q.trans (by decide)))
  omega
theorem zsw_0_10 {x : Int32} (h0 : ¬ x = 0) (h1 : ¬ x = 1) (h2 : ¬ x = 2) (h3 : ¬ x = 3) (h4 : ¬ x = 4) (h5 : ¬ x = 5) (h6 : ¬ x = 6) (h7 : ¬ x = 7) (h8 : ¬ x = 8) (h9 : ¬ x = 9) (h10 : ¬ x = 10) : x.toInt < 0 ∨ 10 < x.toInt := by
  have e0 : x.toInt ≠ 0 := fun q => h0 (Int32.toInt_inj.mp (q.trans (by decide)))
  have e1 : x.toInt ≠ 1 := fun q => h1 (Int32.toInt_inj.mp (q.trans (by decide)))
  have e2 : x.toInt ≠ 2 := fun q => h2 (Int32.toInt_inj.mp (q.trans (by decide)))
  have e3 : x.toInt ≠ 3 := fun q => h3 (Int32.toInt_inj.mp (q.trans (by decide)))
  have e4 : x.toInt ≠ 4 := fun q => h4 (Int32.toInt_inj.mp (q.trans (by decide)))
  have e5 : x.toInt ≠ 5 := fun q => h5 (Int32.toInt_inj.mp (q.trans (by decide)))
  have e6 : x.toInt ≠ 6 := fun q => h6 (Int32.toInt_inj.mp (q.trans (by decide)))
  have e7 : x.toInt ≠ 7 := fun q => h7 (Int32.toInt_inj.mp (q.trans (by decide)))
  have e8 : x.toInt ≠ 8 := fun q => h8 (Int32.toInt_inj.mp (q.trans (by decide)))
  have e9 : x.toInt ≠ 9 := fun q => h9 (Int32.toInt_inj.mp (q.trans (by decide)))
  have e10 : x.toInt ≠ 10 := fun q => h10 (Int32.toInt_inj.mp (q.trans (by decide)))
  omega
theorem zset_1_0 (F : Nat → Nat → Nat) (I : zH) (a : Nat) (v : Int32) : (zF 1 F I a).set 0 (.int v) = zF 1 F (up2 I a 0 v) a := by simp [zF, up2]
theorem zset_1_1 (F : Nat → Nat → Nat) (I : zH) (a : Nat) (v : Int32) : (zF 1 F I a).set 1 (.int v) = zF 1 F (up2 I a 1 v) a := by simp [zF, up2]
theorem zset_1_2 (F : Nat → Nat → Nat) (I : zH) (a : Nat) (v : Int32) : (zF 1 F I a).set 2 (.int v) = zF 1 F (up2 I a 2 v) a := by simp [zF, up2]
theorem zset_1_3 (F : Nat → Nat → Nat) (I : zH) (a : Nat) (v : Int32) : (zF 1 F I a).set 3 (.int v) = zF 1 F (up2 I a 3 v) a := by simp [zF, up2]
theorem zset_1_4 (F : Nat → Nat → Nat) (I : zH) (a : Nat) (v : Int32) : (zF 1 F I a).set 4 (.int v) = zF 1 F (up2 I a 4 v) a := by simp [zF, up2]
theorem zset_2_1 (F : Nat → Nat → Nat) (I : zH) (a : Nat) (v : Int32) : (zF 2 F I a).set 1 (.int v) = zF 2 F (up2 I a 1 v) a := by simp [zF, up2]
theorem zset_2_2 (F : Nat → Nat → Nat) (I : zH) (a : Nat) (v : Int32) : (zF 2 F I a).set 2 (.int v) = zF 2 F (up2 I a 2 v) a := by simp [zF, up2]
theorem zset_3_4 (F : Nat → Nat → Nat) (I : zH) (a : Nat) (v : Int32) : (zF 3 F I a).set 4 (.int v) = zF 3 F (up2 I a 4 v) a := by simp [zF, up2]
theorem zset_3_5 (F : Nat → Nat → Nat) (I : zH) (a : Nat) (v : Int32) : (zF 3 F I a).set 5 (.int v) = zF 3 F (up2 I a 5 v) a := by simp [zF, up2]
theorem zset_3_6 (F : Nat → Nat → Nat) (I : zH) (a : Nat) (v : Int32) : (zF 3 F I a).set 6 (.int v) = zF 3 F (up2 I a 6 v) a := by simp [zF, up2]
theorem zset_3_7 (F : Nat → Nat → Nat) (I : zH) (a : Nat) (v : Int32) : (zF 3 F I a).set 7 (.int v) = zF 3 F (up2 I a 7 v) a := by simp [zF, up2]
theorem zset_4_2 (F : Nat → Nat → Nat) (I : zH) (a : Nat) (v : Int32) : (zF 4 F I a).set 2 (.int v) = zF 4 F (up2 I a 2 v) a := by simp [zF, up2]
theorem zset_4_3 (F : Nat → Nat → Nat) (I : zH) (a : Nat) (v : Int32) : (zF 4 F I a).set 3 (.int v) = zF 4 F (up2 I a 3 v) a := by simp [zF, up2]
theorem zset_5_8 (F : Nat → Nat → Nat) (I : zH) (a : Nat) (v : Int32) : (zF 5 F I a).set 8 (.int v) = zF 5 F (up2 I a 8 v) a := by simp [zF, up2]
theorem zset_5_9 (F : Nat → Nat → Nat) (I : zH) (a : Nat) (v : Int32) : (zF 5 F I a).set 9 (.int v) = zF 5 F (up2 I a 9 v) a := by simp [zF, up2]
theorem zset_5_10 (F : Nat → Nat → Nat) (I : zH) (a : Nat) (v : Int32) : (zF 5 F I a).set 10 (.int v) = zF 5 F (up2 I a 10 v) a := by simp [zF, up2]
theorem zset_5_11 (F : Nat → Nat → Nat) (I : zH) (a : Nat) (v : Int32) : (zF 5 F I a).set 11 (.int v) = zF 5 F (up2 I a 11 v) a := by simp [zF, up2]
end
section
def f_J6_bitCount_0f7a4 (F G : Nat → Nat → Nat) (p0 : Int32) (I A : zH) : Option (Int32) :=
  some ((((((((p0 - ((((p0 : Int32).toUInt32 >>> ((1 : Int32).toUInt32 &&& Int32.toUInt32 31)).toInt32) &&& 1431655765)) &&& 858993459) + (((((p0 - ((((p0 : Int32).toUInt32 >>> ((1 : Int32).toUInt32 &&& Int32.toUInt32 31)).toInt32) &&& 1431655765)) : Int32).toUInt32 >>> ((2 : Int32).toUInt32 &&& Int32.toUInt32 31)).toInt32) &&& 858993459)) + ((((((p0 - ((((p0 : Int32).toUInt32 >>> ((1 : Int32).toUInt32 &&& Int32.toUInt32 31)).toInt32) &&& 1431655765)) &&& 858993459) + (((((p0 - ((((p0 : Int32).toUInt32 >>> ((1 : Int32).toUInt32 &&& Int32.toUInt32 31)).toInt32) &&& 1431655765)) : Int32).toUInt32 >>> ((2 : Int32).toUInt32 &&& Int32.toUInt32 31)).toInt32) &&& 858993459)) : Int32).toUInt32 >>> ((4 : Int32).toUInt32 &&& Int32.toUInt32 31)).toInt32)) &&& 252645135) + ((((((((p0 - ((((p0 : Int32).toUInt32 >>> ((1 : Int32).toUInt32 &&& Int32.toUInt32 31)).toInt32) &&& 1431655765)) &&& 858993459) + (((((p0 - ((((p0 : Int32).toUInt32 >>> ((1 : Int32).toUInt32 &&& Int32.toUInt32 31)).toInt32) &&& 1431655765)) : Int32).toUInt32 >>> ((2 : Int32).toUInt32 &&& Int32.toUInt32 31)).toInt32) &&& 858993459)) + ((((((p0 - ((((p0 : Int32).toUInt32 >>> ((1 : Int32).toUInt32 &&& Int32.toUInt32 31)).toInt32) &&& 1431655765)) &&& 858993459) + (((((p0 - ((((p0 : Int32).toUInt32 >>> ((1 : Int32).toUInt32 &&& Int32.toUInt32 31)).toInt32) &&& 1431655765)) : Int32).toUInt32 >>> ((2 : Int32).toUInt32 &&& Int32.toUInt32 31)).toInt32) &&& 858993459)) : Int32).toUInt32 >>> ((4 : Int32).toUInt32 &&& Int32.toUInt32 31)).toInt32)) &&& 252645135) : Int32).toUInt32 >>> ((8 : Int32).toUInt32 &&& Int32.toUInt32 31)).toInt32)) + (((((((((p0 - ((((p0 : Int32).toUInt32 >>> ((1 : Int32).toUInt32 &&& Int32.toUInt32 31)).toInt32) &&& 1431655765)) &&& 858993459) + (((((p0 - ((((p0 : Int32).toUInt32 >>> ((1 : Int32).toUInt32 &&& Int32.toUInt32 31)).toInt32) &&& 1431655765)) : Int32).toUInt32 >>> ((2 : Int32).toUInt32 &&& Int32.toUInt32 31)).toInt32) &&& 858993459)) + ((((((p0 - ((((p0 : Int32).toUInt32 >>> ((1 : Int32).toUInt32 &&& Int32.toUInt32 31)).toInt32) &&& 1431655765)) &&& 858993459) + (((((p0 - ((((p0 : Int32).toUInt32 >>> ((1 : Int32).toUInt32 &&& Int32.toUInt32 31)).toInt32) &&& 1431655765)) : Int32).toUInt32 >>> ((2 : Int32).toUInt32 &&& Int32.toUInt32 31)).toInt32) &&& 858993459)) : Int32).toUInt32 >>> ((4 : Int32).toUInt32 &&& Int32.toUInt32 31)).toInt32)) &&& 252645135) + ((((((((p0 - ((((p0 : Int32).toUInt32 >>> ((1 : Int32).toUInt32 &&& Int32.toUInt32 31)).toInt32) &&& 1431655765)) &&& 858993459) + (((((p0 - ((((p0 : Int32).toUInt32 >>> ((1 : Int32).toUInt32 &&& Int32.toUInt32 31)).toInt32) &&& 1431655765)) : Int32).toUInt32 >>> ((2 : Int32).toUInt32 &&& Int32.toUInt32 31)).toInt32) &&& 858993459)) + ((((((p0 - ((((p0 : Int32).toUInt32 >>> ((1 : Int32).toUInt32 &&& Int32.toUInt32 31)).toInt32) &&& 1431655765)) &&& 858993459) + (((((p0 - ((((p0 : Int32).toUInt32 >>> ((1 : Int32).toUInt32 &&& Int32.toUInt32 31)).toInt32) &&& 1431655765)) : Int32).toUInt32 >>> ((2 : Int32).toUInt32 &&& Int32.toUInt32 31)).toInt32) &&& 858993459)) : Int32).toUInt32 >>> ((4 : Int32).toUInt32 &&& Int32.toUInt32 31)).toInt32)) &&& 252645135) : Int32).toUInt32 >>> ((8 : Int32).toUInt32 &&& Int32.toUInt32 31)).toInt32)) : Int32).toUInt32 >>> ((16 : Int32).toUInt32 &&& Int32.toUInt32 31)).toInt32)) &&& 63)
set_option maxHeartbeats 4000000 in
set_option maxRecDepth 100000 in
theorem c_J6_bitCount_0f7a4 (l : Launch) (D : va_G) (cy : Nat → ClassId) {L : List Nat} {K N : Nat → Nat} {F G : Nat → Nat → Nat} (hZ : ZL L K N F G) (p0 : Int32)  (I A : zH) {r : Int32} (h : f_J6_bitCount_0f7a4 F G p0 I A = some r) : ZMi l yJ6_bitCount_0f7a4 cJ6_bitCount_0f7a4 1 (some .int) { frames := 0, cells := 0, slots := 0, locals := 0 } D cy L K N F G [.int p0] I A r I A := by
  refine ZMi.of (nL := 1) hZ rfl rfl (by decide) (Nat.le_of_ble_eq_true rfl) (fun p e s m args below meth c C hr => ?_)
  unfold f_J6_bitCount_0f7a4 at h
  refine zr_lv (lv' := [(0, .int p0)]) C [0] rfl ?_
  refine zr_iload_n C 0 rfl rfl dJ6_bitCount_0f7a4_0 ?_
  refine zr_iload_n C 0 rfl rfl dJ6_bitCount_0f7a4_1 ?_
  refine zr_iconst (v := 1) C (by decide) dJ6_bitCount_0f7a4_2 ?_
  refine zr_iushr C dJ6_bitCount_0f7a4_3 ?_
  refine zr_ldcw (v := 1431655765) C wd_361 dJ6_bitCount_0f7a4_4 ?_
  refine zr_iand C dJ6_bitCount_0f7a4_7 ?_
  refine zr_isub C dJ6_bitCount_0f7a4_8 ?_
  refine zr_istore_n (lv' := [(0, .int (p0 - ((((p0 : Int32).toUInt32 >>> ((1 : Int32).toUInt32 &&& Int32.toUInt32 31)).toInt32) &&& 1431655765)))]) C rfl (by decide) rfl dJ6_bitCount_0f7a4_9 ?_
  refine zr_iload_n C 0 rfl rfl dJ6_bitCount_0f7a4_10 ?_
  refine zr_ldcw (v := 858993459) C wd_362 dJ6_bitCount_0f7a4_11 ?_
  refine zr_iand C dJ6_bitCount_0f7a4_14 ?_
  refine zr_iload_n C 0 rfl rfl dJ6_bitCount_0f7a4_15 ?_
  refine zr_iconst (v := 2) C (by decide) dJ6_bitCount_0f7a4_16 ?_
  refine zr_iushr C dJ6_bitCount_0f7a4_17 ?_
  refine zr_ldcw (v := 858993459) C wd_362 dJ6_bitCount_0f7a4_18 ?_
  refine zr_iand C dJ6_bitCount_0f7a4_21 ?_
  refine zr_iadd C dJ6_bitCount_0f7a4_22 ?_
  refine zr_istore_n (lv' := [(0, .int (((p0 - ((((p0 : Int32).toUInt32 >>> ((1 : Int32).toUInt32 &&& Int32.toUInt32 31)).toInt32) &&& 1431655765)) &&& 858993459) + (((((p0 - ((((p0 : Int32).toUInt32 >>> ((1 : Int32).toUInt32 &&& Int32.toUInt32 31)).toInt32) &&& 1431655765)) : Int32).toUInt32 >>> ((2 : Int32).toUInt32 &&& Int32.toUInt32 31)).toInt32) &&& 858993459)))]) C rfl (by decide) rfl dJ6_bitCount_0f7a4_23 ?_
  refine zr_iload_n C 0 rfl rfl dJ6_bitCount_0f7a4_24 ?_
  refine zr_iload_n C 0 rfl rfl dJ6_bitCount_0f7a4_25 ?_
  refine zr_iconst (v := 4) C (by decide) dJ6_bitCount_0f7a4_26 ?_
  refine zr_iushr C dJ6_bitCount_0f7a4_27 ?_
  refine zr_iadd C dJ6_bitCount_0f7a4_28 ?_
  refine zr_ldcw (v := 252645135) C wd_363 dJ6_bitCount_0f7a4_29 ?_
  refine zr_iand C dJ6_bitCount_0f7a4_32 ?_
  refine zr_istore_n (lv' := [(0, .int (((((p0 - ((((p0 : Int32).toUInt32 >>> ((1 : Int32).toUInt32 &&& Int32.toUInt32 31)).toInt32) &&& 1431655765)) &&& 858993459) + (((((p0 - ((((p0 : Int32).toUInt32 >>> ((1 : Int32).toUInt32 &&& Int32.toUInt32 31)).toInt32) &&& 1431655765)) : Int32).toUInt32 >>> ((2 : Int32).toUInt32 &&& Int32.toUInt32 31)).toInt32) &&& 858993459)) + ((((((p0 - ((((p0 : Int32).toUInt32 >>> ((1 : Int32).toUInt32 &&& Int32.toUInt32 31)).toInt32) &&& 1431655765)) &&& 858993459) + (((((p0 - ((((p0 : Int32).toUInt32 >>> ((1 : Int32).toUInt32 &&& Int32.toUInt32 31)).toInt32) &&& 1431655765)) : Int32).toUInt32 >>> ((2 : Int32).toUInt32 &&& Int32.toUInt32 31)).toInt32) &&& 858993459)) : Int32).toUInt32 >>> ((4 : Int32).toUInt32 &&& Int32.toUInt32 31)).toInt32)) &&& 252645135))]) C rfl (by decide) rfl dJ6_bitCount_0f7a4_33 ?_
  refine zr_iload_n C 0 rfl rfl dJ6_bitCount_0f7a4_34 ?_
  refine zr_iload_n C 0 rfl rfl dJ6_bitCount_0f7a4_35 ?_
  refine zr_bipush (v := 8) C (by decide) dJ6_bitCount_0f7a4_36 ?_
  refine zr_iushr C dJ6_bitCount_0f7a4_38 ?_
  refine zr_iadd C dJ6_bitCount_0f7a4_39 ?_
  refine zr_istore_n (lv' := [(0, .int ((((((p0 - ((((p0 : Int32).toUInt32 >>> ((1 : Int32).toUInt32 &&& Int32.toUInt32 31)).toInt32) &&& 1431655765)) &&& 858993459) + (((((p0 - ((((p0 : Int32).toUInt32 >>> ((1 : Int32).toUInt32 &&& Int32.toUInt32 31)).toInt32) &&& 1431655765)) : Int32).toUInt32 >>> ((2 : Int32).toUInt32 &&& Int32.toUInt32 31)).toInt32) &&& 858993459)) + ((((((p0 - ((((p0 : Int32).toUInt32 >>> ((1 : Int32).toUInt32 &&& Int32.toUInt32 31)).toInt32) &&& 1431655765)) &&& 858993459) + (((((p0 - ((((p0 : Int32).toUInt32 >>> ((1 : Int32).toUInt32 &&& Int32.toUInt32 31)).toInt32) &&& 1431655765)) : Int32).toUInt32 >>> ((2 : Int32).toUInt32 &&& Int32.toUInt32 31)).toInt32) &&& 858993459)) : Int32).toUInt32 >>> ((4 : Int32).toUInt32 &&& Int32.toUInt32 31)).toInt32)) &&& 252645135) + ((((((((p0 - ((((p0 : Int32).toUInt32 >>> ((1 : Int32).toUInt32 &&& Int32.toUInt32 31)).toInt32) &&& 1431655765)) &&& 858993459) + (((((p0 - ((((p0 : Int32).toUInt32 >>> ((1 : Int32).toUInt32 &&& Int32.toUInt32 31)).toInt32) &&& 1431655765)) : Int32).toUInt32 >>> ((2 : Int32).toUInt32 &&& Int32.toUInt32 31)).toInt32) &&& 858993459)) + ((((((p0 - ((((p0 : Int32).toUInt32 >>> ((1 : Int32).toUInt32 &&& Int32.toUInt32 31)).toInt32) &&& 1431655765)) &&& 858993459) + (((((p0 - ((((p0 : Int32).toUInt32 >>> ((1 : Int32).toUInt32 &&& Int32.toUInt32 31)).toInt32) &&& 1431655765)) : Int32).toUInt32 >>> ((2 : Int32).toUInt32 &&& Int32.toUInt32 31)).toInt32) &&& 858993459)) : Int32).toUInt32 >>> ((4 : Int32).toUInt32 &&& Int32.toUInt32 31)).toInt32)) &&& 252645135) : Int32).toUInt32 >>> ((8 : Int32).toUInt32 &&& Int32.toUInt32 31)).toInt32)))]) C rfl (by decide) rfl dJ6_bitCount_0f7a4_40 ?_
  refine zr_iload_n C 0 rfl rfl dJ6_bitCount_0f7a4_41 ?_
  refine zr_iload_n C 0 rfl rfl dJ6_bitCount_0f7a4_42 ?_
  refine zr_bipush (v := 16) C (by decide) dJ6_bitCount_0f7a4_43 ?_
  refine zr_iushr C dJ6_bitCount_0f7a4_45 ?_
  refine zr_iadd C dJ6_bitCount_0f7a4_46 ?_
  refine zr_istore_n (lv' := [(0, .int (((((((p0 - ((((p0 : Int32).toUInt32 >>> ((1 : Int32).toUInt32 &&& Int32.toUInt32 31)).toInt32) &&& 1431655765)) &&& 858993459) + (((((p0 - ((((p0 : Int32).toUInt32 >>> ((1 : Int32).toUInt32 &&& Int32.toUInt32 31)).toInt32) &&& 1431655765)) : Int32).toUInt32 >>> ((2 : Int32).toUInt32 &&& Int32.toUInt32 31)).toInt32) &&& 858993459)) + ((((((p0 - ((((p0 : Int32).toUInt32 >>> ((1 : Int32).toUInt32 &&& Int32.toUInt32 31)).toInt32) &&& 1431655765)) &&& 858993459) + (((((p0 - ((((p0 : Int32).toUInt32 >>> ((1 : Int32).toUInt32 &&& Int32.toUInt32 31)).toInt32) &&& 1431655765)) : Int32).toUInt32 >>> ((2 : Int32).toUInt32 &&& Int32.toUInt32 31)).toInt32) &&& 858993459)) : Int32).toUInt32 >>> ((4 : Int32).toUInt32 &&& Int32.toUInt32 31)).toInt32)) &&& 252645135) + ((((((((p0 - ((((p0 : Int32).toUInt32 >>> ((1 : Int32).toUInt32 &&& Int32.toUInt32 31)).toInt32) &&& 1431655765)) &&& 858993459) + (((((p0 - ((((p0 : Int32).toUInt32 >>> ((1 : Int32).toUInt32 &&& Int32.toUInt32 31)).toInt32) &&& 1431655765)) : Int32).toUInt32 >>> ((2 : Int32).toUInt32 &&& Int32.toUInt32 31)).toInt32) &&& 858993459)) + ((((((p0 - ((((p0 : Int32).toUInt32 >>> ((1 : Int32).toUInt32 &&& Int32.toUInt32 31)).toInt32) &&& 1431655765)) &&& 858993459) + (((((p0 - ((((p0 : Int32).toUInt32 >>> ((1 : Int32).toUInt32 &&& Int32.toUInt32 31)).toInt32) &&& 1431655765)) : Int32).toUInt32 >>> ((2 : Int32).toUInt32 &&& Int32.toUInt32 31)).toInt32) &&& 858993459)) : Int32).toUInt32 >>> ((4 : Int32).toUInt32 &&& Int32.toUInt32 31)).toInt32)) &&& 252645135) : Int32).toUInt32 >>> ((8 : Int32).toUInt32 &&& Int32.toUInt32 31)).toInt32)) + (((((((((p0 - ((((p0 : Int32).toUInt32 >>> ((1 : Int32).toUInt32 &&& Int32.toUInt32 31)).toInt32) &&& 1431655765)) &&& 858993459) + (((((p0 - ((((p0 : Int32).toUInt32 >>> ((1 : Int32).toUInt32 &&& Int32.toUInt32 31)).toInt32) &&& 1431655765)) : Int32).toUInt32 >>> ((2 : Int32).toUInt32 &&& Int32.toUInt32 31)).toInt32) &&& 858993459)) + ((((((p0 - ((((p0 : Int32).toUInt32 >>> ((1 : Int32).toUInt32 &&& Int32.toUInt32 31)).toInt32) &&& 1431655765)) &&& 858993459) + (((((p0 - ((((p0 : Int32).toUInt32 >>> ((1 : Int32).toUInt32 &&& Int32.toUInt32 31)).toInt32) &&& 1431655765)) : Int32).toUInt32 >>> ((2 : Int32).toUInt32 &&& Int32.toUInt32 31)).toInt32) &&& 858993459)) : Int32).toUInt32 >>> ((4 : Int32).toUInt32 &&& Int32.toUInt32 31)).toInt32)) &&& 252645135) + ((((((((p0 - ((((p0 : Int32).toUInt32 >>> ((1 : Int32).toUInt32 &&& Int32.toUInt32 31)).toInt32) &&& 1431655765)) &&& 858993459) + (((((p0 - ((((p0 : Int32).toUInt32 >>> ((1 : Int32).toUInt32 &&& Int32.toUInt32 31)).toInt32) &&& 1431655765)) : Int32).toUInt32 >>> ((2 : Int32).toUInt32 &&& Int32.toUInt32 31)).toInt32) &&& 858993459)) + ((((((p0 - ((((p0 : Int32).toUInt32 >>> ((1 : Int32).toUInt32 &&& Int32.toUInt32 31)).toInt32) &&& 1431655765)) &&& 858993459) + (((((p0 - ((((p0 : Int32).toUInt32 >>> ((1 : Int32).toUInt32 &&& Int32.toUInt32 31)).toInt32) &&& 1431655765)) : Int32).toUInt32 >>> ((2 : Int32).toUInt32 &&& Int32.toUInt32 31)).toInt32) &&& 858993459)) : Int32).toUInt32 >>> ((4 : Int32).toUInt32 &&& Int32.toUInt32 31)).toInt32)) &&& 252645135) : Int32).toUInt32 >>> ((8 : Int32).toUInt32 &&& Int32.toUInt32 31)).toInt32)) : Int32).toUInt32 >>> ((16 : Int32).toUInt32 &&& Int32.toUInt32 31)).toInt32)))]) C rfl (by decide) rfl dJ6_bitCount_0f7a4_47 ?_
  refine zr_iload_n C 0 rfl rfl dJ6_bitCount_0f7a4_48 ?_
  refine zr_bipush (v := 63) C (by decide) dJ6_bitCount_0f7a4_49 ?_
  refine zr_iand C dJ6_bitCount_0f7a4_51 ?_
  obtain rfl := zso h
  exact zr_iret C hr dJ6_bitCount_0f7a4_52

def f_X5_hasBit (F G : Nat → Nat → Nat) (p0 : Int32) (p1 : Int32) (I A : zH) : Option (Int32) :=
  if ((p0 >>> (p1 &&& 31)) &&& 1) = 1 then (
    some 1
  ) else (
    some 0
  )
set_option maxHeartbeats 4000000 in
set_option maxRecDepth 100000 in
theorem c_X5_hasBit (l : Launch) (D : va_G) (cy : Nat → ClassId) {L : List Nat} {K N : Nat → Nat} {F G : Nat → Nat → Nat} (hZ : ZL L K N F G) (p0 : Int32) (p1 : Int32)  (I A : zH) {r : Int32} (h : f_X5_hasBit F G p0 p1 I A = some r) : ZMi l yX5_hasBit cX5_hasBit 2 (some .boolean) { frames := 0, cells := 0, slots := 0, locals := 0 } D cy L K N F G [.int p0, .int p1] I A r I A := by
  refine ZMi.of (nL := 2) hZ rfl rfl (by decide) (Nat.le_of_ble_eq_true rfl) (fun p e s m args below meth c C hr => ?_)
  unfold f_X5_hasBit at h
  refine zr_lv (lv' := [(0, .int p0), (1, .int p1)]) C [0, 1] rfl ?_
  refine zr_iload_n C 0 rfl rfl dX5_hasBit_0 ?_
  refine zr_iload_n C 1 rfl rfl dX5_hasBit_1 ?_
  refine zr_ishr C dX5_hasBit_2 ?_
  refine zr_iconst (v := 1) C (by decide) dX5_hasBit_3 ?_
  refine zr_iand C dX5_hasBit_4 ?_
  refine zr_iconst (v := 1) C (by decide) dX5_hasBit_5 ?_
  refine zr_icmp_ne (tgt := 13) C (by decide) dX5_hasBit_6 (fun hc1 => ?_) (fun hc1 => ?_)
  · have h := zif_f hc1 h
    refine zr_iconst (v := 0) C (by decide) dX5_hasBit_13 ?_
    obtain rfl := zso h
    exact zr_zret C hr rfl dX5_hasBit_14
  · have h := zif_t hc1 h
    refine zr_iconst (v := 1) C (by decide) dX5_hasBit_9 ?_
    refine zr_goto (tgt := 14) C (by decide) dX5_hasBit_10 ?_
    obtain rfl := zso h
    exact zr_zret C hr rfl dX5_hasBit_14
end
section
def g_X4_hasPrint_2 (F G : Nat → Nat → Nat) (v0 : Nat) (v1 : Int32) (v2 : Int32) (I : zH) (A : zH) : Option ((Int32) ⊕ ((Int32) ⊕ (Int32))) :=
  if (I v0 3) ≤ v2 then (
    some (.inr (.inl v2))
  ) else (
    zck (¬ (v2 < 0 ∨ 9 ≤ v2.toNatClampNeg)) <|
    if (A (F v0 1) v2.toNatClampNeg) = v1 then (
      some (.inr (.inr 1))
    ) else (
      some (.inl (v2 + 1))
    )
  )
def f_X4_hasPrint (F G : Nat → Nat → Nat) (h0 : Nat) (p0 : Int32) (I A : zH) : Option (Int32) :=
  zs (fun q => q) (zIt (fun x => g_X4_hasPrint_2 F G h0 p0 x I A) 2000 0) fun x3 =>
   some 0
set_option maxHeartbeats 4000000 in
set_option maxRecDepth 100000 in
theorem wb_X4_hasPrint_2 (l : Launch) (D : va_G) (cy : Nat → ClassId) {L : List Nat} {K N : Nat → Nat} {F G : Nat → Nat → Nat} (hZ : ZL L K N F G) {p : Program} {e : Env} {R : Room} {s : State} {m : MethodId} {args : Array Value} {below : List Frame} {meth : Method} {c : Code} {cells slots : Nat} {r : Int32} (C : ZC p s m args meth c cX4_hasPrint yX4_hasPrint.cls 3 D cy L K N F G) (hRf : 0 ≤ R.frames) (hRl : 0 ≤ R.locals) (hRc : cells ≤ R.cells ∧ slots ≤ R.slots) (hr : meth.sig.returnType = (some .boolean)) (v0 : Nat) (v1 : Int32) (k0 : K v0 = 4) (I : zH) (A : zH) (v2 : Int32) (o : (Int32) ⊕ ((Int32) ⊕ (Int32))) (h : g_X4_hasPrint_2 F G v0 v1 v2 I A = some o)
    (hg : ∀ y : Int32, o = .inl y → ZW p l e R s m args below meth c 3 D cy L K N F G cells slots (MQ below (va_Qi (fun x (_ : Unit) => x = r) (fun _ t => zPost D cy L K N F G I A t) (zA L s.heap.size)) args s cells slots (zA L s.heap.size)) I A 2 [(0, .ref v0), (1, .int v1), (2, .int y)] [])
    (hx : ∀ y : Int32, o = .inr (.inl y) → ZW p l e R s m args below meth c 3 D cy L K N F G cells slots (MQ below (va_Qi (fun x (_ : Unit) => x = r) (fun _ t => zPost D cy L K N F G I A t) (zA L s.heap.size)) args s cells slots (zA L s.heap.size)) I A 28 [(0, .ref v0), (1, .int v1), (2, .int y)] [])
    (hX : ∀ y : Int32, o = .inr (.inr y) → y = r) : ZW p l e R s m args below meth c 3 D cy L K N F G cells slots (MQ below (va_Qi (fun x (_ : Unit) => x = r) (fun _ t => zPost D cy L K N F G I A t) (zA L s.heap.size)) args s cells slots (zA L s.heap.size)) I A 2 [(0, .ref v0), (1, .int v1), (2, .int v2)] [] := by
  unfold g_X4_hasPrint_2 at h
  refine zr_iload_n C 2 rfl rfl dX4_hasPrint_2 ?_
  refine zr_aload_n C 0 rfl rfl dX4_hasPrint_3 ?_
  refine zr_get (ci := 4) (k := 3) (v := .int (I v0 3)) C k0 (by decide) rfl zinX4 (by decide) wd_33 rfl dX4_hasPrint_4 ?_
  refine zr_icmp_ge (tgt := 28) C (by decide) dX4_hasPrint_7 (fun hc1 => ?_) (fun hc1 => ?_)
  · have h := zif_t hc1 h
    obtain rfl := zso h
    refine zr_lv (lv' := [(0, .ref v0), (1, .int v1), (2, .int v2)]) C [0, 1, 2] rfl ?_
    exact hx _ rfl
  · have h := zif_f hc1 h
    refine zr_aload_n C 0 rfl rfl dX4_hasPrint_10 ?_
    refine zr_get (ci := 4) (k := 1) (v := .ref (F v0 1)) C k0 (by decide) rfl zinX4 (by decide) wd_30 rfl dX4_hasPrint_11 ?_
    refine zr_iload_n C 2 rfl rfl dX4_hasPrint_14 ?_
    obtain ⟨hc2, h⟩ := zck_e h
    refine zr_iald C (zt41 hZ k0).1 (zt41 hZ k0).2 hc2 dX4_hasPrint_15 ?_
    refine zr_iload_n C 1 rfl rfl dX4_hasPrint_16 ?_
    refine zr_icmp_ne (tgt := 22) C (by decide) dX4_hasPrint_17 (fun hc3 => ?_) (fun hc3 => ?_)
    · have h := zif_f hc3 h
      refine zr_iinc (v := v2 + 1) (lv' := [(2, .int (v2 + 1)), (0, .ref v0), (1, .int v1)]) C 2 rfl rfl (by decide) rfl dX4_hasPrint_22 ?_
      refine zr_goto (tgt := 2) C (by decide) dX4_hasPrint_25 ?_
      obtain rfl := zso h
      refine zr_lv (lv' := [(0, .ref v0), (1, .int v1), (2, .int (v2 + 1))]) C [1, 2, 0] rfl ?_
      exact hg _ rfl
    · have h := zif_t hc3 h
      refine zr_iconst (v := 1) C (by decide) dX4_hasPrint_20 ?_
      obtain rfl := zso h
      obtain rfl := hX _ rfl
      exact zr_zret C hr rfl dX4_hasPrint_21
set_option maxHeartbeats 4000000 in
set_option maxRecDepth 100000 in
theorem w_X4_hasPrint_2 (l : Launch) (D : va_G) (cy : Nat → ClassId) {L : List Nat} {K N : Nat → Nat} {F G : Nat → Nat → Nat} (hZ : ZL L K N F G) {p : Program} {e : Env} {R : Room} {s : State} {m : MethodId} {args : Array Value} {below : List Frame} {meth : Method} {c : Code} {cells slots : Nat} {r : Int32} (C : ZC p s m args meth c cX4_hasPrint yX4_hasPrint.cls 3 D cy L K N F G) (hRf : 0 ≤ R.frames) (hRl : 0 ≤ R.locals) (hRc : cells ≤ R.cells ∧ slots ≤ R.slots) (hr : meth.sig.returnType = (some .boolean)) (v0 : Nat) (v1 : Int32) (k0 : K v0 = 4) (I : zH) (A : zH) (n : Nat) (x : Int32) (o : (Int32) ⊕ (Int32)) (h : zIt (fun x => g_X4_hasPrint_2 F G v0 v1 x I A) n x = some o)
    (hx : ∀ y : Int32, o = .inl y → ZW p l e R s m args below meth c 3 D cy L K N F G cells slots (MQ below (va_Qi (fun x (_ : Unit) => x = r) (fun _ t => zPost D cy L K N F G I A t) (zA L s.heap.size)) args s cells slots (zA L s.heap.size)) I A 28 [(0, .ref v0), (1, .int v1), (2, .int y)] []) (hX : ∀ y : Int32, o = .inr y → y = r) : ZW p l e R s m args below meth c 3 D cy L K N F G cells slots (MQ below (va_Qi (fun x (_ : Unit) => x = r) (fun _ t => zPost D cy L K N F G I A t) (zA L s.heap.size)) args s cells slots (zA L s.heap.size)) I A 2 [(0, .ref v0), (1, .int v1), (2, .int x)] [] := by
  induction n generalizing x with
  | zero => cases h
  | succ n ih =>
    unfold zIt at h
    cases hb : g_X4_hasPrint_2 F G v0 v1 x I A with
    | none => rw [hb] at h; cases h
    | some q =>
      rw [hb] at h
      refine wb_X4_hasPrint_2 l D cy hZ C hRf hRl hRc hr v0 v1 k0 I A x q hb (fun y hy => ?_) (fun y hy => ?_) (fun y hy => ?_)
      · subst hy; exact ih y h
      · subst hy; cases h; exact hx y rfl
      · subst hy; cases h; exact hX y rfl
set_option maxHeartbeats 4000000 in
set_option maxRecDepth 100000 in
theorem c_X4_hasPrint (l : Launch) (D : va_G) (cy : Nat → ClassId) {L : List Nat} {K N : Nat → Nat} {F G : Nat → Nat → Nat} (hZ : ZL L K N F G) (h0 : Nat) (p0 : Int32) (k_h0 : K h0 = 4) (I A : zH) {r : Int32} (h : f_X4_hasPrint F G h0 p0 I A = some r) : ZMi l yX4_hasPrint cX4_hasPrint 3 (some .boolean) { frames := 0, cells := 0, slots := 0, locals := 0 } D cy L K N F G [.ref h0, .int p0] I A r I A := by
  refine ZMi.of (nL := 3) hZ rfl rfl (by decide) (Nat.le_of_ble_eq_true rfl) (fun p e s m args below meth c C hr => ?_)
  unfold f_X4_hasPrint at h
  refine zr_lv (lv' := [(0, .ref h0), (1, .int p0)]) C [0, 1] rfl ?_
  refine zr_iconst (v := 0) C (by decide) dX4_hasPrint_0 ?_
  refine zr_istore_n (lv' := [(2, .int 0), (0, .ref h0), (1, .int p0)]) C rfl (by decide) rfl dX4_hasPrint_1 ?_
  refine zr_lv (lv' := [(0, .ref h0), (1, .int p0), (2, .int 0)]) C [1, 2, 0] rfl ?_
  obtain ⟨x3, h2, h⟩ | ⟨x3, h2, h⟩ := zs_e h
  · refine w_X4_hasPrint_2 l D cy hZ C (Nat.le_of_ble_eq_true rfl) (Nat.le_of_ble_eq_true rfl) ⟨Nat.le_refl _, Nat.le_refl _⟩ hr h0 p0 k_h0 I A 2000 0 (.inl x3) h2 (fun y hy => ?_) (fun q hq => by cases hq)
    cases hy
    obtain ⟨i1, rfl⟩ : ∃ z, z = x3 := ⟨_, rfl⟩
    refine zr_iconst (v := 0) C (by decide) dX4_hasPrint_28 ?_
    obtain rfl := zso h
    exact zr_zret C hr rfl dX4_hasPrint_29
  · refine w_X4_hasPrint_2 l D cy hZ C (Nat.le_of_ble_eq_true rfl) (Nat.le_of_ble_eq_true rfl) ⟨Nat.le_refl _, Nat.le_refl _⟩ hr h0 p0 k_h0 I A 2000 0 (.inr x3) h2 (fun y hy => by cases hy) (fun q hq => ?_)
    cases hq
    exact h

def g_X4_shareWith_23 (F G : Nat → Nat → Nat) (v0 : Nat) (v1 : Nat) (v2 : Int32) (v3 : Int32) (v4 : Int32) (I : zH) (A : zH) : Option ((Int32 × Int32) ⊕ (Int32 × Int32)) :=
  if (I v0 3) ≤ v4 then (
    some (.inr (v3, v4))
  ) else (
    zck (¬ (v4 < 0 ∨ 9 ≤ v4.toNatClampNeg)) <|
    zb (f_X4_hasPrint F G v1 (A (F v0 1) v4.toNatClampNeg) I A) fun r3 =>
    if r3 = 0 then (
      some (.inl (v3, v4 + 1))
    ) else (
      some (.inl (v3 + 1, v4 + 1))
    )
  )
def f_X4_shareWith (F G : Nat → Nat → Nat) (h0 : Nat) (r0 : Nat) (I A : zH) : Option (Int32) :=
  if (if (I r0 3) < (I h0 3) then (I r0 3) else (I h0 3)) = 0 then (
    some 0
  ) else (
    zb2 (zIt (fun x => g_X4_shareWith_23 F G h0 r0 (if (I r0 3) < (I h0 3) then (I r0 3) else (I h0 3)) x.1 x.2 I A) 2000 (0, 0)) fun i2 i3 =>
    zck (¬ (if (I r0 3) < (I h0 3) then (I r0 3) else (I h0 3)) = 0) <|
    some ((i2 * 100) / (if (I r0 3) < (I h0 3) then (I r0 3) else (I h0 3)))
  )
set_option maxHeartbeats 4000000 in
set_option maxRecDepth 100000 in
theorem wb_X4_shareWith_23 (l : Launch) (D : va_G) (cy : Nat → ClassId) {L : List Nat} {K N : Nat → Nat} {F G : Nat → Nat → Nat} (hZ : ZL L K N F G) {p : Program} {e : Env} {R : Room} {s : State} {m : MethodId} {args : Array Value} {below : List Frame} {meth : Method} {c : Code} {cells slots : Nat} {Q : State → Prop} (C : ZC p s m args meth c cX4_shareWith yX4_shareWith.cls 5 D cy L K N F G) (hRf : 1 ≤ R.frames) (hRl : 22 ≤ R.locals) (hRc : cells ≤ R.cells ∧ slots ≤ R.slots)  (v0 : Nat) (v1 : Nat) (v2 : Int32) (k0 : K v0 = 4) (k1 : K v1 = 4) (I : zH) (A : zH) (v3 : Int32) (v4 : Int32) (o : (Int32 × Int32) ⊕ (Int32 × Int32)) (h : g_X4_shareWith_23 F G v0 v1 v2 v3 v4 I A = some o)
    (hg : ∀ y : Int32 × Int32, o = .inl y → ZW p l e R s m args below meth c 5 D cy L K N F G cells slots Q I A 23 [(0, .ref v0), (1, .ref v1), (2, .int v2), (3, .int y.1), (4, .int y.2)] [])
    (hx : ∀ y : Int32 × Int32, o = .inr y → ZW p l e R s m args below meth c 5 D cy L K N F G cells slots Q I A 55 [(0, .ref v0), (1, .ref v1), (2, .int v2), (3, .int y.1), (4, .int y.2)] []) : ZW p l e R s m args below meth c 5 D cy L K N F G cells slots Q I A 23 [(0, .ref v0), (1, .ref v1), (2, .int v2), (3, .int v3), (4, .int v4)] [] := by
  unfold g_X4_shareWith_23 at h
  refine zr_iload C 4 rfl dX4_shareWith_23 ?_
  refine zr_aload_n C 0 rfl rfl dX4_shareWith_25 ?_
  refine zr_get (ci := 4) (k := 3) (v := .int (I v0 3)) C k0 (by decide) rfl zinX4 (by decide) wd_33 rfl dX4_shareWith_26 ?_
  refine zr_icmp_ge (tgt := 55) C (by decide) dX4_shareWith_29 (fun hc1 => ?_) (fun hc1 => ?_)
  · have h := zif_t hc1 h
    obtain rfl := zso h
    refine zr_lv (lv' := [(0, .ref v0), (1, .ref v1), (2, .int v2), (3, .int v3), (4, .int v4)]) C [0, 1, 2, 3, 4] rfl ?_
    exact hx _ rfl
  · have h := zif_f hc1 h
    refine zr_aload_n C 1 rfl rfl dX4_shareWith_32 ?_
    refine zr_aload_n C 0 rfl rfl dX4_shareWith_33 ?_
    refine zr_get (ci := 4) (k := 1) (v := .ref (F v0 1)) C k0 (by decide) rfl zinX4 (by decide) wd_30 rfl dX4_shareWith_34 ?_
    refine zr_iload C 4 rfl dX4_shareWith_37 ?_
    obtain ⟨hc2, h⟩ := zck_e h
    refine zr_iald C (zt41 hZ k0).1 (zt41 hZ k0).2 hc2 dX4_shareWith_39 ?_
    obtain ⟨r3, h4, h⟩ := zb_e h
    refine zr_callVi (n := 1) (As := [.int (A (F v0 1) v4.toNatClampNeg)]) C (c_X4_hasPrint l D cy hZ v1 (A (F v0 1) v4.toNatClampNeg) k1 I A h4) wd_287 wd_289 wp_4 wd_2 wd_290 (by decide +kernel) ⟨(Nat.le_trans (Nat.le_of_ble_eq_true rfl) hRf), (Nat.le_trans (Nat.le_of_ble_eq_true rfl) hRl)⟩ rfl rfl hRc k1 (by decide) rfl rfl rfl (Nat.le_of_ble_eq_true rfl) dX4_shareWith_40 ?_
    refine zr_if_eq (tgt := 49) C (by decide) dX4_shareWith_43 (fun hc6 => ?_) (fun hc6 => ?_)
    · have h := zif_t hc6 h
      refine zr_iinc (v := v4 + 1) (lv' := [(4, .int (v4 + 1)), (0, .ref v0), (1, .ref v1), (2, .int v2), (3, .int v3)]) C 4 rfl rfl (by decide) rfl dX4_shareWith_49 ?_
      refine zr_goto (tgt := 23) C (by decide) dX4_shareWith_52 ?_
      obtain rfl := zso h
      refine zr_lv (lv' := [(0, .ref v0), (1, .ref v1), (2, .int v2), (3, .int v3), (4, .int (v4 + 1))]) C [1, 2, 3, 4, 0] rfl ?_
      exact hg _ rfl
    · have h := zif_f hc6 h
      refine zr_iinc (v := v3 + 1) (lv' := [(3, .int (v3 + 1)), (0, .ref v0), (1, .ref v1), (2, .int v2), (4, .int v4)]) C 3 rfl rfl (by decide) rfl dX4_shareWith_46 ?_
      refine zr_iinc (v := v4 + 1) (lv' := [(4, .int (v4 + 1)), (3, .int (v3 + 1)), (0, .ref v0), (1, .ref v1), (2, .int v2)]) C 4 rfl rfl (by decide) rfl dX4_shareWith_49 ?_
      refine zr_goto (tgt := 23) C (by decide) dX4_shareWith_52 ?_
      obtain rfl := zso h
      refine zr_lv (lv' := [(0, .ref v0), (1, .ref v1), (2, .int v2), (3, .int (v3 + 1)), (4, .int (v4 + 1))]) C [2, 3, 4, 1, 0] rfl ?_
      exact hg _ rfl
set_option maxHeartbeats 4000000 in
set_option maxRecDepth 100000 in
theorem w_X4_shareWith_23 (l : Launch) (D : va_G) (cy : Nat → ClassId) {L : List Nat} {K N : Nat → Nat} {F G : Nat → Nat → Nat} (hZ : ZL L K N F G) {p : Program} {e : Env} {R : Room} {s : State} {m : MethodId} {args : Array Value} {below : List Frame} {meth : Method} {c : Code} {cells slots : Nat} {Q : State → Prop} (C : ZC p s m args meth c cX4_shareWith yX4_shareWith.cls 5 D cy L K N F G) (hRf : 1 ≤ R.frames) (hRl : 22 ≤ R.locals) (hRc : cells ≤ R.cells ∧ slots ≤ R.slots)  (v0 : Nat) (v1 : Nat) (v2 : Int32) (k0 : K v0 = 4) (k1 : K v1 = 4) (I : zH) (A : zH) (n : Nat) (x : Int32 × Int32) (o : Int32 × Int32) (h : zIt (fun x => g_X4_shareWith_23 F G v0 v1 v2 x.1 x.2 I A) n x = some o)
    (hx : ZW p l e R s m args below meth c 5 D cy L K N F G cells slots Q I A 55 [(0, .ref v0), (1, .ref v1), (2, .int v2), (3, .int o.1), (4, .int o.2)] []) : ZW p l e R s m args below meth c 5 D cy L K N F G cells slots Q I A 23 [(0, .ref v0), (1, .ref v1), (2, .int v2), (3, .int x.1), (4, .int x.2)] [] := by
  induction n generalizing x with
  | zero => cases h
  | succ n ih =>
    unfold zIt at h
    cases hb : g_X4_shareWith_23 F G v0 v1 v2 x.1 x.2 I A with
    | none => rw [hb] at h; cases h
    | some q =>
      rw [hb] at h
      refine wb_X4_shareWith_23 l D cy hZ C hRf hRl hRc v0 v1 v2 k0 k1 I A x.1 x.2 q hb (fun y hy => ?_) (fun y hy => ?_)
      · subst hy; exact ih y h
      · subst hy; cases h; exact hx
set_option maxHeartbeats 4000000 in
set_option maxRecDepth 100000 in
theorem c_X4_shareWith (l : Launch) (D : va_G) (cy : Nat → ClassId) {L : List Nat} {K N : Nat → Nat} {F G : Nat → Nat → Nat} (hZ : ZL L K N F G) (h0 : Nat) (r0 : Nat) (k_h0 : K h0 = 4) (k_r0 : K r0 = 4) (I A : zH) {r : Int32} (h : f_X4_shareWith F G h0 r0 I A = some r) : ZMi l yX4_shareWith cX4_shareWith 5 (some .int) { frames := 1, cells := 0, slots := 0, locals := 22 } D cy L K N F G [.ref h0, .ref r0] I A r I A := by
  refine ZMi.of (nL := 5) hZ rfl rfl (by decide) (Nat.le_of_ble_eq_true rfl) (fun p e s m args below meth c C hr => ?_)
  unfold f_X4_shareWith at h
  refine zr_lv (lv' := [(0, .ref h0), (1, .ref r0)]) C [0, 1] rfl ?_
  refine zr_aload_n C 0 rfl rfl dX4_shareWith_0 ?_
  refine zr_get (ci := 4) (k := 3) (v := .int (I h0 3)) C k_h0 (by decide) rfl zinX4 (by decide) wd_33 rfl dX4_shareWith_1 ?_
  refine zr_aload_n C 1 rfl rfl dX4_shareWith_4 ?_
  refine zr_get (ci := 4) (k := 3) (v := .int (I r0 3)) C k_r0 (by decide) rfl zinX4 (by decide) wd_33 rfl dX4_shareWith_5 ?_
  refine zr_min C wd_299 wd_300 wd_14 wd_301 (Nat.le_of_ble_eq_true rfl) (Nat.le_of_ble_eq_true rfl) ⟨Nat.le_refl _, Nat.le_refl _⟩ dX4_shareWith_8 ?_
  refine zr_istore_n (lv' := [(2, .int (if (I r0 3) < (I h0 3) then (I r0 3) else (I h0 3))), (0, .ref h0), (1, .ref r0)]) C rfl (by decide) rfl dX4_shareWith_11 ?_
  refine zr_iload_n C 0 rfl rfl dX4_shareWith_12 ?_
  refine zr_if_ne (tgt := 18) C (by decide) dX4_shareWith_13 (fun hc1 => ?_) (fun hc1 => ?_)
  · have h := zif_f hc1 h
    refine zr_iconst (v := 0) C (by decide) dX4_shareWith_18 ?_
    refine zr_istore_n (lv' := [(3, .int 0), (2, .int (if (I r0 3) < (I h0 3) then (I r0 3) else (I h0 3))), (0, .ref h0), (1, .ref r0)]) C rfl (by decide) rfl dX4_shareWith_19 ?_
    refine zr_iconst (v := 0) C (by decide) dX4_shareWith_20 ?_
    refine zr_istore (lv' := [(4, .int 0), (3, .int 0), (2, .int (if (I r0 3) < (I h0 3) then (I r0 3) else (I h0 3))), (0, .ref h0), (1, .ref r0)]) C (by decide) rfl dX4_shareWith_21 ?_
    obtain ⟨i2, i3, h5, h⟩ := zb2_e h
    refine zr_lv (lv' := [(0, .ref h0), (1, .ref r0), (2, .int (if (I r0 3) < (I h0 3) then (I r0 3) else (I h0 3))), (3, .int 0), (4, .int 0)]) C [3, 4, 2, 1, 0] rfl ?_
    refine w_X4_shareWith_23 l D cy hZ C (Nat.le_of_ble_eq_true rfl) (Nat.le_of_ble_eq_true rfl) ⟨Nat.le_refl _, Nat.le_refl _⟩ h0 r0 (if (I r0 3) < (I h0 3) then (I r0 3) else (I h0 3)) k_h0 k_r0 I A 2000 (0, 0) (i2, i3) h5 ?_
    refine zr_iload_n C 3 rfl rfl dX4_shareWith_55 ?_
    refine zr_bipush (v := 100) C (by decide) dX4_shareWith_56 ?_
    refine zr_imul C dX4_shareWith_58 ?_
    refine zr_iload_n C 2 rfl rfl dX4_shareWith_59 ?_
    obtain ⟨hc4, h⟩ := zck_e h
    refine zr_idiv C hc4 dX4_shareWith_60 ?_
    obtain rfl := zso h
    exact zr_iret C hr dX4_shareWith_61
  · have h := zif_t hc1 h
    refine zr_iconst (v := 0) C (by decide) dX4_shareWith_16 ?_
    obtain rfl := zso h
    exact zr_iret C hr dX4_shareWith_17

def g_X4_firstPlace_2 (F G : Nat → Nat → Nat) (v0 : Nat) (v1 : Int32) (v2 : Int32) (v3 : Int32) (I : zH) (A : zH) : Option ((Int32) ⊕ ((Int32) ⊕ (Int32))) :=
  if v2 ≤ v3 then (
    some (.inr (.inl v3))
  ) else (
    zck (¬ (v3 < 0 ∨ 12 ≤ v3.toNatClampNeg)) <|
    zck (¬ (v2 < 0 ∨ 12 ≤ v2.toNatClampNeg)) <|
    if (A (F v0 0) v3.toNatClampNeg) = (A (F v0 0) v2.toNatClampNeg) then (
      some (.inr (.inr (v3 - v1)))
    ) else (
      some (.inl (v3 + 1))
    )
  )
def f_X4_firstPlace (F G : Nat → Nat → Nat) (h0 : Nat) (p0 : Int32) (p1 : Int32) (I A : zH) : Option (Int32) :=
  zs (fun q => q) (zIt (fun x => g_X4_firstPlace_2 F G h0 p0 p1 x I A) 2000 p0) fun x3 =>
   some (p1 - p0)
set_option maxHeartbeats 4000000 in
set_option maxRecDepth 100000 in
theorem wb_X4_firstPlace_2 (l : Launch) (D : va_G) (cy : Nat → ClassId) {L : List Nat} {K N : Nat → Nat} {F G : Nat → Nat → Nat} (hZ : ZL L K N F G) {p : Program} {e : Env} {R : Room} {s : State} {m : MethodId} {args : Array Value} {below : List Frame} {meth : Method} {c : Code} {cells slots : Nat} {r : Int32} (C : ZC p s m args meth c cX4_firstPlace yX4_firstPlace.cls 4 D cy L K N F G) (hRf : 0 ≤ R.frames) (hRl : 0 ≤ R.locals) (hRc : cells ≤ R.cells ∧ slots ≤ R.slots) (hr : meth.sig.returnType = (some .int)) (v0 : Nat) (v1 : Int32) (v2 : Int32) (k0 : K v0 = 4) (I : zH) (A : zH) (v3 : Int32) (o : (Int32) ⊕ ((Int32) ⊕ (Int32))) (h : g_X4_firstPlace_2 F G v0 v1 v2 v3 I A = some o)
    (hg : ∀ y : Int32, o = .inl y → ZW p l e R s m args below meth c 4 D cy L K N F G cells slots (MQ below (va_Qi (fun x (_ : Unit) => x = r) (fun _ t => zPost D cy L K N F G I A t) (zA L s.heap.size)) args s cells slots (zA L s.heap.size)) I A 2 [(0, .ref v0), (1, .int v1), (2, .int v2), (3, .int y)] [])
    (hx : ∀ y : Int32, o = .inr (.inl y) → ZW p l e R s m args below meth c 4 D cy L K N F G cells slots (MQ below (va_Qi (fun x (_ : Unit) => x = r) (fun _ t => zPost D cy L K N F G I A t) (zA L s.heap.size)) args s cells slots (zA L s.heap.size)) I A 32 [(0, .ref v0), (1, .int v1), (2, .int v2), (3, .int y)] [])
    (hX : ∀ y : Int32, o = .inr (.inr y) → y = r) : ZW p l e R s m args below meth c 4 D cy L K N F G cells slots (MQ below (va_Qi (fun x (_ : Unit) => x = r) (fun _ t => zPost D cy L K N F G I A t) (zA L s.heap.size)) args s cells slots (zA L s.heap.size)) I A 2 [(0, .ref v0), (1, .int v1), (2, .int v2), (3, .int v3)] [] := by
  unfold g_X4_firstPlace_2 at h
  refine zr_iload_n C 3 rfl rfl dX4_firstPlace_2 ?_
  refine zr_iload_n C 2 rfl rfl dX4_firstPlace_3 ?_
  refine zr_icmp_ge (tgt := 32) C (by decide) dX4_firstPlace_4 (fun hc1 => ?_) (fun hc1 => ?_)
  · have h := zif_t hc1 h
    obtain rfl := zso h
    refine zr_lv (lv' := [(0, .ref v0), (1, .int v1), (2, .int v2), (3, .int v3)]) C [0, 1, 2, 3] rfl ?_
    exact hx _ rfl
  · have h := zif_f hc1 h
    refine zr_aload_n C 0 rfl rfl dX4_firstPlace_7 ?_
    refine zr_get (ci := 4) (k := 0) (v := .ref (F v0 0)) C k0 (by decide) rfl zinX4 (by decide) wd_29 rfl dX4_firstPlace_8 ?_
    refine zr_iload_n C 3 rfl rfl dX4_firstPlace_11 ?_
    obtain ⟨hc2, h⟩ := zck_e h
    refine zr_iald C (zt40 hZ k0).1 (zt40 hZ k0).2 hc2 dX4_firstPlace_12 ?_
    refine zr_aload_n C 0 rfl rfl dX4_firstPlace_13 ?_
    refine zr_get (ci := 4) (k := 0) (v := .ref (F v0 0)) C k0 (by decide) rfl zinX4 (by decide) wd_29 rfl dX4_firstPlace_14 ?_
    refine zr_iload_n C 2 rfl rfl dX4_firstPlace_17 ?_
    obtain ⟨hc3, h⟩ := zck_e h
    refine zr_iald C (zt40 hZ k0).1 (zt40 hZ k0).2 hc3 dX4_firstPlace_18 ?_
    refine zr_icmp_ne (tgt := 26) C (by decide) dX4_firstPlace_19 (fun hc4 => ?_) (fun hc4 => ?_)
    · have h := zif_f hc4 h
      refine zr_iinc (v := v3 + 1) (lv' := [(3, .int (v3 + 1)), (0, .ref v0), (1, .int v1), (2, .int v2)]) C 3 rfl rfl (by decide) rfl dX4_firstPlace_26 ?_
      refine zr_goto (tgt := 2) C (by decide) dX4_firstPlace_29 ?_
      obtain rfl := zso h
      refine zr_lv (lv' := [(0, .ref v0), (1, .int v1), (2, .int v2), (3, .int (v3 + 1))]) C [1, 2, 3, 0] rfl ?_
      exact hg _ rfl
    · have h := zif_t hc4 h
      refine zr_iload_n C 3 rfl rfl dX4_firstPlace_22 ?_
      refine zr_iload_n C 1 rfl rfl dX4_firstPlace_23 ?_
      refine zr_isub C dX4_firstPlace_24 ?_
      obtain rfl := zso h
      obtain rfl := hX _ rfl
      exact zr_iret C hr dX4_firstPlace_25
set_option maxHeartbeats 4000000 in
set_option maxRecDepth 100000 in
theorem w_X4_firstPlace_2 (l : Launch) (D : va_G) (cy : Nat → ClassId) {L : List Nat} {K N : Nat → Nat} {F G : Nat → Nat → Nat} (hZ : ZL L K N F G) {p : Program} {e : Env} {R : Room} {s : State} {m : MethodId} {args : Array Value} {below : List Frame} {meth : Method} {c : Code} {cells slots : Nat} {r : Int32} (C : ZC p s m args meth c cX4_firstPlace yX4_firstPlace.cls 4 D cy L K N F G) (hRf : 0 ≤ R.frames) (hRl : 0 ≤ R.locals) (hRc : cells ≤ R.cells ∧ slots ≤ R.slots) (hr : meth.sig.returnType = (some .int)) (v0 : Nat) (v1 : Int32) (v2 : Int32) (k0 : K v0 = 4) (I : zH) (A : zH) (n : Nat) (x : Int32) (o : (Int32) ⊕ (Int32)) (h : zIt (fun x => g_X4_firstPlace_2 F G v0 v1 v2 x I A) n x = some o)
    (hx : ∀ y : Int32, o = .inl y → ZW p l e R s m args below meth c 4 D cy L K N F G cells slots (MQ below (va_Qi (fun x (_ : Unit) => x = r) (fun _ t => zPost D cy L K N F G I A t) (zA L s.heap.size)) args s cells slots (zA L s.heap.size)) I A 32 [(0, .ref v0), (1, .int v1), (2, .int v2), (3, .int y)] []) (hX : ∀ y : Int32, o = .inr y → y = r) : ZW p l e R s m args below meth c 4 D cy L K N F G cells slots (MQ below (va_Qi (fun x (_ : Unit) => x = r) (fun _ t => zPost D cy L K N F G I A t) (zA L s.heap.size)) args s cells slots (zA L s.heap.size)) I A 2 [(0, .ref v0), (1, .int v1), (2, .int v2), (3, .int x)] [] := by
  induction n generalizing x with
  | zero => cases h
  | succ n ih =>
    unfold zIt at h
    cases hb : g_X4_firstPlace_2 F G v0 v1 v2 x I A with
    | none => rw [hb] at h; cases h
    | some q =>
      rw [hb] at h
      refine wb_X4_firstPlace_2 l D cy hZ C hRf hRl hRc hr v0 v1 v2 k0 I A x q hb (fun y hy => ?_) (fun y hy => ?_) (fun y hy => ?_)
      · subst hy; exact ih y h
      · subst hy; cases h; exact hx y rfl
      · subst hy; cases h; exact hX y rfl
set_option maxHeartbeats 4000000 in
set_option maxRecDepth 100000 in
theorem c_X4_firstPlace (l : Launch) (D : va_G) (cy : Nat → ClassId) {L : List Nat} {K N : Nat → Nat} {F G : Nat → Nat → Nat} (hZ : ZL L K N F G) (h0 : Nat) (p0 : Int32) (p1 : Int32) (k_h0 : K h0 = 4) (I A : zH) {r : Int32} (h : f_X4_firstPlace F G h0 p0 p1 I A = some r) : ZMi l yX4_firstPlace cX4_firstPlace 4 (some .int) { frames := 0, cells := 0, slots := 0, locals := 0 } D cy L K N F G [.ref h0, .int p0, .int p1] I A r I A := by
  refine ZMi.of (nL := 4) hZ rfl rfl (by decide) (Nat.le_of_ble_eq_true rfl) (fun p e s m args below meth c C hr => ?_)
  unfold f_X4_firstPlace at h
  refine zr_lv (lv' := [(0, .ref h0), (1, .int p0), (2, .int p1)]) C [0, 1, 2] rfl ?_
  refine zr_iload_n C 1 rfl rfl dX4_firstPlace_0 ?_
  refine zr_istore_n (lv' := [(3, .int p0), (0, .ref h0), (1, .int p0), (2, .int p1)]) C rfl (by decide) rfl dX4_firstPlace_1 ?_
  refine zr_lv (lv' := [(0, .ref h0), (1, .int p0), (2, .int p1), (3, .int p0)]) C [1, 2, 3, 0] rfl ?_
  obtain ⟨x3, h2, h⟩ | ⟨x3, h2, h⟩ := zs_e h
  · refine w_X4_firstPlace_2 l D cy hZ C (Nat.le_of_ble_eq_true rfl) (Nat.le_of_ble_eq_true rfl) ⟨Nat.le_refl _, Nat.le_refl _⟩ hr h0 p0 p1 k_h0 I A 2000 p0 (.inl x3) h2 (fun y hy => ?_) (fun q hq => by cases hq)
    cases hy
    obtain ⟨i1, rfl⟩ : ∃ z, z = x3 := ⟨_, rfl⟩
    refine zr_iload_n C 2 rfl rfl dX4_firstPlace_32 ?_
    refine zr_iload_n C 1 rfl rfl dX4_firstPlace_33 ?_
    refine zr_isub C dX4_firstPlace_34 ?_
    obtain rfl := zso h
    exact zr_iret C hr dX4_firstPlace_35
  · refine w_X4_firstPlace_2 l D cy hZ C (Nat.le_of_ble_eq_true rfl) (Nat.le_of_ble_eq_true rfl) ⟨Nat.le_refl _, Nat.le_refl _⟩ hr h0 p0 p1 k_h0 I A 2000 p0 (.inr x3) h2 (fun y hy => by cases hy) (fun q hq => ?_)
    cases hq
    exact h

def g_X4_printAt_4 (F G : Nat → Nat → Nat) (v0 : Nat) (v1 : Int32) (v2 : Int32) (v3 : Int32) (I : zH) (A : zH) : Option ((Int32 × Int32) ⊕ (Int32 × Int32)) :=
  if (v1 + 4) ≤ v3 then (
    some (.inr (v2, v3))
  ) else (
    zck (¬ (v3 < 0 ∨ 12 ≤ v3.toNatClampNeg)) <|
    if 10 ≤ (A (F v0 0) v3.toNatClampNeg) then (
      zck (¬ (v3 < 0 ∨ 12 ≤ v3.toNatClampNeg)) <|
      some (.inl ((v2 * 30) + (A (F v0 0) v3.toNatClampNeg), v3 + 1))
    ) else (
      zb (f_X4_firstPlace F G v0 v1 v3 I A) fun r5 =>
      some (.inl ((v2 * 30) + r5, v3 + 1))
    )
  )
def f_X4_printAt (F G : Nat → Nat → Nat) (h0 : Nat) (p0 : Int32) (I A : zH) : Option (Int32) :=
  zb2 (zIt (fun x => g_X4_printAt_4 F G h0 p0 x.1 x.2 I A) 2000 (0, p0)) fun i1 i2 =>
  some i1
set_option maxHeartbeats 4000000 in
set_option maxRecDepth 100000 in
theorem wb_X4_printAt_4 (l : Launch) (D : va_G) (cy : Nat → ClassId) {L : List Nat} {K N : Nat → Nat} {F G : Nat → Nat → Nat} (hZ : ZL L K N F G) {p : Program} {e : Env} {R : Room} {s : State} {m : MethodId} {args : Array Value} {below : List Frame} {meth : Method} {c : Code} {cells slots : Nat} {Q : State → Prop} (C : ZC p s m args meth c cX4_printAt yX4_printAt.cls 5 D cy L K N F G) (hRf : 1 ≤ R.frames) (hRl : 23 ≤ R.locals) (hRc : cells ≤ R.cells ∧ slots ≤ R.slots)  (v0 : Nat) (v1 : Int32) (k0 : K v0 = 4) (I : zH) (A : zH) (v2 : Int32) (v3 : Int32) (o : (Int32 × Int32) ⊕ (Int32 × Int32)) (h : g_X4_printAt_4 F G v0 v1 v2 v3 I A = some o)
    (hg : ∀ y : Int32 × Int32, o = .inl y → ZW p l e R s m args below meth c 5 D cy L K N F G cells slots Q I A 4 [(0, .ref v0), (1, .int v1), (2, .int y.1), (3, .int y.2)] [])
    (hx : ∀ y : Int32 × Int32, o = .inr y → ZW p l e R s m args below meth c 5 D cy L K N F G cells slots Q I A 53 [(0, .ref v0), (1, .int v1), (2, .int y.1), (3, .int y.2)] []) : ZW p l e R s m args below meth c 5 D cy L K N F G cells slots Q I A 4 [(0, .ref v0), (1, .int v1), (2, .int v2), (3, .int v3)] [] := by
  unfold g_X4_printAt_4 at h
  refine zr_iload_n C 3 rfl rfl dX4_printAt_4 ?_
  refine zr_iload_n C 1 rfl rfl dX4_printAt_5 ?_
  refine zr_iconst (v := 4) C (by decide) dX4_printAt_6 ?_
  refine zr_iadd C dX4_printAt_7 ?_
  refine zr_icmp_ge (tgt := 53) C (by decide) dX4_printAt_8 (fun hc1 => ?_) (fun hc1 => ?_)
  · have h := zif_t hc1 h
    obtain rfl := zso h
    refine zr_lv (lv' := [(0, .ref v0), (1, .int v1), (2, .int v2), (3, .int v3)]) C [0, 1, 2, 3] rfl ?_
    exact hx _ rfl
  · have h := zif_f hc1 h
    refine zr_aload_n C 0 rfl rfl dX4_printAt_11 ?_
    refine zr_get (ci := 4) (k := 0) (v := .ref (F v0 0)) C k0 (by decide) rfl zinX4 (by decide) wd_29 rfl dX4_printAt_12 ?_
    refine zr_iload_n C 3 rfl rfl dX4_printAt_15 ?_
    obtain ⟨hc2, h⟩ := zck_e h
    refine zr_iald C (zt40 hZ k0).1 (zt40 hZ k0).2 hc2 dX4_printAt_16 ?_
    refine zr_bipush (v := 10) C (by decide) dX4_printAt_17 ?_
    refine zr_icmp_ge (tgt := 31) C (by decide) dX4_printAt_19 (fun hc3 => ?_) (fun hc3 => ?_)
    · have h := zif_t hc3 h
      refine zr_aload_n C 0 rfl rfl dX4_printAt_31 ?_
      refine zr_get (ci := 4) (k := 0) (v := .ref (F v0 0)) C k0 (by decide) rfl zinX4 (by decide) wd_29 rfl dX4_printAt_32 ?_
      refine zr_iload_n C 3 rfl rfl dX4_printAt_35 ?_
      obtain ⟨hc4, h⟩ := zck_e h
      refine zr_iald C (zt40 hZ k0).1 (zt40 hZ k0).2 hc4 dX4_printAt_36 ?_
      refine zr_istore (lv' := [(4, .int (A (F v0 0) v3.toNatClampNeg)), (0, .ref v0), (1, .int v1), (2, .int v2), (3, .int v3)]) C (by decide) rfl dX4_printAt_37 ?_
      refine zr_iload_n C 3 rfl rfl dX4_printAt_39 ?_
      refine zr_bipush (v := 30) C (by decide) dX4_printAt_40 ?_
      refine zr_imul C dX4_printAt_42 ?_
      refine zr_iload C 0 rfl dX4_printAt_43 ?_
      refine zr_iadd C dX4_printAt_45 ?_
      refine zr_istore_n (lv' := [(2, .int ((v2 * 30) + (A (F v0 0) v3.toNatClampNeg))), (4, .int (A (F v0 0) v3.toNatClampNeg)), (0, .ref v0), (1, .int v1), (3, .int v3)]) C rfl (by decide) rfl dX4_printAt_46 ?_
      refine zr_iinc (v := v3 + 1) (lv' := [(3, .int (v3 + 1)), (2, .int ((v2 * 30) + (A (F v0 0) v3.toNatClampNeg))), (4, .int (A (F v0 0) v3.toNatClampNeg)), (0, .ref v0), (1, .int v1)]) C 4 rfl rfl (by decide) rfl dX4_printAt_47 ?_
      refine zr_goto (tgt := 4) C (by decide) dX4_printAt_50 ?_
      obtain rfl := zso h
      refine zr_lv (lv' := [(0, .ref v0), (1, .int v1), (2, .int ((v2 * 30) + (A (F v0 0) v3.toNatClampNeg))), (3, .int (v3 + 1))]) C [3, 4, 1, 0] rfl ?_
      exact hg _ rfl
    · have h := zif_f hc3 h
      refine zr_aload_n C 0 rfl rfl dX4_printAt_22 ?_
      refine zr_iload_n C 1 rfl rfl dX4_printAt_23 ?_
      refine zr_iload_n C 3 rfl rfl dX4_printAt_24 ?_
      obtain ⟨r5, h6, h⟩ := zb_e h
      refine zr_callVi (n := 2) (As := [.int v1, .int v3]) C (c_X4_firstPlace l D cy hZ v0 v1 v3 k0 I A h6) wd_283 wd_285 wp_3 wd_2 wd_286 (by decide +kernel) ⟨(Nat.le_trans (Nat.le_of_ble_eq_true rfl) hRf), (Nat.le_trans (Nat.le_of_ble_eq_true rfl) hRl)⟩ rfl rfl hRc k0 (by decide) rfl rfl rfl (Nat.le_of_ble_eq_true rfl) dX4_printAt_25 ?_
      refine zr_goto (tgt := 37) C (by decide) dX4_printAt_28 ?_
      refine zr_istore (lv' := [(4, .int r5), (0, .ref v0), (1, .int v1), (2, .int v2), (3, .int v3)]) C (by decide) rfl dX4_printAt_37 ?_
      refine zr_iload_n C 3 rfl rfl dX4_printAt_39 ?_
      refine zr_bipush (v := 30) C (by decide) dX4_printAt_40 ?_
      refine zr_imul C dX4_printAt_42 ?_
      refine zr_iload C 0 rfl dX4_printAt_43 ?_
      refine zr_iadd C dX4_printAt_45 ?_
      refine zr_istore_n (lv' := [(2, .int ((v2 * 30) + r5)), (4, .int r5), (0, .ref v0), (1, .int v1), (3, .int v3)]) C rfl (by decide) rfl dX4_printAt_46 ?_
      refine zr_iinc (v := v3 + 1) (lv' := [(3, .int (v3 + 1)), (2, .int ((v2 * 30) + r5)), (4, .int r5), (0, .ref v0), (1, .int v1)]) C 4 rfl rfl (by decide) rfl dX4_printAt_47 ?_
      refine zr_goto (tgt := 4) C (by decide) dX4_printAt_50 ?_
      obtain rfl := zso h
      refine zr_lv (lv' := [(0, .ref v0), (1, .int v1), (2, .int ((v2 * 30) + r5)), (3, .int (v3 + 1))]) C [3, 4, 1, 0] rfl ?_
      exact hg _ rfl
set_option maxHeartbeats 4000000 in
set_option maxRecDepth 100000 in
theorem w_X4_printAt_4 (l : Launch) (D : va_G) (cy : Nat → ClassId) {L : List Nat} {K N : Nat → Nat} {F G : Nat → Nat → Nat} (hZ : ZL L K N F G) {p : Program} {e : Env} {R : Room} {s : State} {m : MethodId} {args : Array Value} {below : List Frame} {meth : Method} {c : Code} {cells slots : Nat} {Q : State → Prop} (C : ZC p s m args meth c cX4_printAt yX4_printAt.cls 5 D cy L K N F G) (hRf : 1 ≤ R.frames) (hRl : 23 ≤ R.locals) (hRc : cells ≤ R.cells ∧ slots ≤ R.slots)  (v0 : Nat) (v1 : Int32) (k0 : K v0 = 4) (I : zH) (A : zH) (n : Nat) (x : Int32 × Int32) (o : Int32 × Int32) (h : zIt (fun x => g_X4_printAt_4 F G v0 v1 x.1 x.2 I A) n x = some o)
    (hx : ZW p l e R s m args below meth c 5 D cy L K N F G cells slots Q I A 53 [(0, .ref v0), (1, .int v1), (2, .int o.1), (3, .int o.2)] []) : ZW p l e R s m args below meth c 5 D cy L K N F G cells slots Q I A 4 [(0, .ref v0), (1, .int v1), (2, .int x.1), (3, .int x.2)] [] := by
  induction n generalizing x with
  | zero => cases h
  | succ n ih =>
    unfold zIt at h
    cases hb : g_X4_printAt_4 F G v0 v1 x.1 x.2 I A with
    | none => rw [hb] at h; cases h
    | some q =>
      rw [hb] at h
      refine wb_X4_printAt_4 l D cy hZ C hRf hRl hRc v0 v1 k0 I A x.1 x.2 q hb (fun y hy => ?_) (fun y hy => ?_)
      · subst hy; exact ih y h
      · subst hy; cases h; exact hx
set_option maxHeartbeats 4000000 in
set_option maxRecDepth 100000 in
theorem c_X4_printAt (l : Launch) (D : va_G) (cy : Nat → ClassId) {L : List Nat} {K N : Nat → Nat} {F G : Nat → Nat → Nat} (hZ : ZL L K N F G) (h0 : Nat) (p0 : Int32) (k_h0 : K h0 = 4) (I A : zH) {r : Int32} (h : f_X4_printAt F G h0 p0 I A = some r) : ZMi l yX4_printAt cX4_printAt 5 (some .int) { frames := 1, cells := 0, slots := 0, locals := 23 } D cy L K N F G [.ref h0, .int p0] I A r I A := by
  refine ZMi.of (nL := 5) hZ rfl rfl (by decide) (Nat.le_of_ble_eq_true rfl) (fun p e s m args below meth c C hr => ?_)
  unfold f_X4_printAt at h
  refine zr_lv (lv' := [(0, .ref h0), (1, .int p0)]) C [0, 1] rfl ?_
  refine zr_iconst (v := 0) C (by decide) dX4_printAt_0 ?_
  refine zr_istore_n (lv' := [(2, .int 0), (0, .ref h0), (1, .int p0)]) C rfl (by decide) rfl dX4_printAt_1 ?_
  refine zr_iload_n C 2 rfl rfl dX4_printAt_2 ?_
  refine zr_istore_n (lv' := [(3, .int p0), (2, .int 0), (0, .ref h0), (1, .int p0)]) C rfl (by decide) rfl dX4_printAt_3 ?_
  obtain ⟨i1, i2, h3, h⟩ := zb2_e h
  refine zr_lv (lv' := [(0, .ref h0), (1, .int p0), (2, .int 0), (3, .int p0)]) C [2, 3, 1, 0] rfl ?_
  refine w_X4_printAt_4 l D cy hZ C (Nat.le_of_ble_eq_true rfl) (Nat.le_of_ble_eq_true rfl) ⟨Nat.le_refl _, Nat.le_refl _⟩ h0 p0 k_h0 I A 2000 (0, p0) (i1, i2) h3 ?_
  refine zr_iload_n C 2 rfl rfl dX4_printAt_53 ?_
  obtain rfl := zso h
  exact zr_iret C hr dX4_printAt_54

def g_X4_takePrints_7 (F G : Nat → Nat → Nat) (v0 : Nat) (v1 : Int32) (I : zH) (A : zH) : Option ((Int32 × zH × zH) ⊕ (Int32 × zH × zH)) :=
  if (I v0 2) < (v1 + 4) then (
    some (.inr (v1, I, A))
  ) else (
    zb (f_X4_printAt F G v0 v1 I A) fun r2 =>
    zb (f_X4_hasPrint F G v0 r2 I A) fun r5 =>
    if r5 = 0 then (
      zck (¬ (I v0 3 < 0 ∨ 9 ≤ (I v0 3).toNatClampNeg)) <|
      zlet (up2 A (F v0 1) (I v0 3).toNatClampNeg r2) fun A10 =>
      zlet (up2 I v0 3 ((I v0 3) + 1)) fun I11 =>
      some (.inl (v1 + 1, I11, A10))
    ) else (
      some (.inl (v1 + 1, I, A))
    )
  )
def f_X4_takePrints (F G : Nat → Nat → Nat) (h0 : Nat) (I A : zH) : Option (zH × zH) :=
  zlet (up2 I h0 3 0) fun I1 =>
  zb3 (zIt (fun x => g_X4_takePrints_7 F G h0 x.1 x.2.1 x.2.2 ) 2000 (0, I1, A)) fun i2 I3 A4 =>
  some (I3, A4)
set_option maxHeartbeats 4000000 in
set_option maxRecDepth 100000 in
theorem wb_X4_takePrints_7 (l : Launch) (D : va_G) (cy : Nat → ClassId) {L : List Nat} {K N : Nat → Nat} {F G : Nat → Nat → Nat} (hZ : ZL L K N F G) {p : Program} {e : Env} {R : Room} {s : State} {m : MethodId} {args : Array Value} {below : List Frame} {meth : Method} {c : Code} {cells slots : Nat} {Q : State → Prop} (C : ZC p s m args meth c cX4_takePrints yX4_takePrints.cls 3 D cy L K N F G) (hRf : 2 ≤ R.frames) (hRl : 47 ≤ R.locals) (hRc : cells ≤ R.cells ∧ slots ≤ R.slots)  (v0 : Nat) (k0 : K v0 = 4) (v1 : Int32) (I : zH) (A : zH) (o : (Int32 × zH × zH) ⊕ (Int32 × zH × zH)) (h : g_X4_takePrints_7 F G v0 v1 I A  = some o)
    (hg : ∀ y : Int32 × zH × zH, o = .inl y → ZW p l e R s m args below meth c 3 D cy L K N F G cells slots Q y.2.1 y.2.2 7 [(0, .ref v0), (1, .int y.1)] [])
    (hx : ∀ y : Int32 × zH × zH, o = .inr y → ZW p l e R s m args below meth c 3 D cy L K N F G cells slots Q y.2.1 y.2.2 57 [(0, .ref v0), (1, .int y.1)] []) : ZW p l e R s m args below meth c 3 D cy L K N F G cells slots Q I A 7 [(0, .ref v0), (1, .int v1)] [] := by
  unfold g_X4_takePrints_7 at h
  refine zr_iload_n C 1 rfl rfl dX4_takePrints_7 ?_
  refine zr_iconst (v := 4) C (by decide) dX4_takePrints_8 ?_
  refine zr_iadd C dX4_takePrints_9 ?_
  refine zr_aload_n C 0 rfl rfl dX4_takePrints_10 ?_
  refine zr_get (ci := 4) (k := 2) (v := .int (I v0 2)) C k0 (by decide) rfl zinX4 (by decide) wd_31 rfl dX4_takePrints_11 ?_
  refine zr_icmp_gt (tgt := 57) C (by decide) dX4_takePrints_14 (fun hc1 => ?_) (fun hc1 => ?_)
  · have h := zif_t hc1 h
    obtain rfl := zso h
    refine zr_lv (lv' := [(0, .ref v0), (1, .int v1)]) C [0, 1] rfl ?_
    exact hx _ rfl
  · have h := zif_f hc1 h
    refine zr_aload_n C 0 rfl rfl dX4_takePrints_17 ?_
    refine zr_iload_n C 1 rfl rfl dX4_takePrints_18 ?_
    obtain ⟨r2, h3, h⟩ := zb_e h
    refine zr_callVi (n := 1) (As := [.int v1]) C (c_X4_printAt l D cy hZ v0 v1 k0 I A h3) wd_279 wd_281 wp_2 wd_2 wd_282 (by decide +kernel) ⟨(Nat.le_trans (Nat.le_of_ble_eq_true rfl) hRf), (Nat.le_trans (Nat.le_of_ble_eq_true rfl) hRl)⟩ rfl rfl hRc k0 (by decide) rfl rfl rfl (Nat.le_of_ble_eq_true rfl) dX4_takePrints_19 ?_
    refine zr_istore_n (lv' := [(2, .int r2), (0, .ref v0), (1, .int v1)]) C rfl (by decide) rfl dX4_takePrints_22 ?_
    refine zr_aload_n C 1 rfl rfl dX4_takePrints_23 ?_
    refine zr_iload_n C 0 rfl rfl dX4_takePrints_24 ?_
    obtain ⟨r5, h6, h⟩ := zb_e h
    refine zr_callVi (n := 1) (As := [.int r2]) C (c_X4_hasPrint l D cy hZ v0 r2 k0 I A h6) wd_287 wd_289 wp_4 wd_2 wd_290 (by decide +kernel) ⟨(Nat.le_trans (Nat.le_of_ble_eq_true rfl) hRf), (Nat.le_trans (Nat.le_of_ble_eq_true rfl) hRl)⟩ rfl rfl hRc k0 (by decide) rfl rfl rfl (Nat.le_of_ble_eq_true rfl) dX4_takePrints_25 ?_
    refine zr_if_ne (tgt := 51) C (by decide) dX4_takePrints_28 (fun hc8 => ?_) (fun hc8 => ?_)
    · have h := zif_f hc8 h
      refine zr_iinc (v := v1 + 1) (lv' := [(1, .int (v1 + 1)), (2, .int r2), (0, .ref v0)]) C 2 rfl rfl (by decide) rfl dX4_takePrints_51 ?_
      refine zr_goto (tgt := 7) C (by decide) dX4_takePrints_54 ?_
      obtain rfl := zso h
      refine zr_lv (lv' := [(0, .ref v0), (1, .int (v1 + 1))]) C [2, 0] rfl ?_
      exact hg _ rfl
    · have h := zif_t hc8 h
      refine zr_aload_n C 1 rfl rfl dX4_takePrints_31 ?_
      refine zr_get (ci := 4) (k := 1) (v := .ref (F v0 1)) C k0 (by decide) rfl zinX4 (by decide) wd_30 rfl dX4_takePrints_32 ?_
      refine zr_aload_n C 1 rfl rfl dX4_takePrints_35 ?_
      refine zr_get (ci := 4) (k := 3) (v := .int (I v0 3)) C k0 (by decide) rfl zinX4 (by decide) wd_33 rfl dX4_takePrints_36 ?_
      refine zr_iload_n C 0 rfl rfl dX4_takePrints_39 ?_
      obtain ⟨hc9, h⟩ := zck_e h
      refine zr_iast C (zt41 hZ k0).1 (zt41 hZ k0).2 hc9 dX4_takePrints_40 ?_
      obtain ⟨A10, eA10, h⟩ := zlet_e h
      rw [← eA10]
      refine zr_aload_n C 1 rfl rfl dX4_takePrints_41 ?_
      refine zr_dup C rfl dX4_takePrints_42 ?_
      refine zr_get (ci := 4) (k := 3) (v := .int (I v0 3)) C k0 (by decide) rfl zinX4 (by decide) wd_33 rfl dX4_takePrints_43 ?_
      refine zr_iconst (v := 1) C (by decide) dX4_takePrints_46 ?_
      refine zr_iadd C dX4_takePrints_47 ?_
      refine zr_put (ci := 4) (k := 3) (ty := .int) C tyX4 k0 (by decide) rfl zinX4 tyX4_ok nmX4 (by decide) wd_33 rfl (by decide +kernel) rfl rfl (Nat.le_of_ble_eq_true rfl) (zset_4_3 F _ _ _) dX4_takePrints_48 ?_
      obtain ⟨I11, eI11, h⟩ := zlet_e h
      rw [← eI11]
      refine zr_iinc (v := v1 + 1) (lv' := [(1, .int (v1 + 1)), (2, .int r2), (0, .ref v0)]) C 2 rfl rfl (by decide) rfl dX4_takePrints_51 ?_
      refine zr_goto (tgt := 7) C (by decide) dX4_takePrints_54 ?_
      obtain rfl := zso h
      refine zr_lv (lv' := [(0, .ref v0), (1, .int (v1 + 1))]) C [2, 0] rfl ?_
      exact hg _ rfl
set_option maxHeartbeats 4000000 in
set_option maxRecDepth 100000 in
theorem w_X4_takePrints_7 (l : Launch) (D : va_G) (cy : Nat → ClassId) {L : List Nat} {K N : Nat → Nat} {F G : Nat → Nat → Nat} (hZ : ZL L K N F G) {p : Program} {e : Env} {R : Room} {s : State} {m : MethodId} {args : Array Value} {below : List Frame} {meth : Method} {c : Code} {cells slots : Nat} {Q : State → Prop} (C : ZC p s m args meth c cX4_takePrints yX4_takePrints.cls 3 D cy L K N F G) (hRf : 2 ≤ R.frames) (hRl : 47 ≤ R.locals) (hRc : cells ≤ R.cells ∧ slots ≤ R.slots)  (v0 : Nat) (k0 : K v0 = 4) (n : Nat) (x : Int32 × zH × zH) (o : Int32 × zH × zH) (h : zIt (fun x => g_X4_takePrints_7 F G v0 x.1 x.2.1 x.2.2 ) n x = some o)
    (hx : ZW p l e R s m args below meth c 3 D cy L K N F G cells slots Q o.2.1 o.2.2 57 [(0, .ref v0), (1, .int o.1)] []) : ZW p l e R s m args below meth c 3 D cy L K N F G cells slots Q x.2.1 x.2.2 7 [(0, .ref v0), (1, .int x.1)] [] := by
  induction n generalizing x with
  | zero => cases h
  | succ n ih =>
    unfold zIt at h
    cases hb : g_X4_takePrints_7 F G v0 x.1 x.2.1 x.2.2  with
    | none => rw [hb] at h; cases h
    | some q =>
      rw [hb] at h
      refine wb_X4_takePrints_7 l D cy hZ C hRf hRl hRc v0 k0 x.1 x.2.1 x.2.2 q hb (fun y hy => ?_) (fun y hy => ?_)
      · subst hy; exact ih y h
      · subst hy; cases h; exact hx
set_option maxHeartbeats 4000000 in
set_option maxRecDepth 100000 in
theorem c_X4_takePrints (l : Launch) (D : va_G) (cy : Nat → ClassId) {L : List Nat} {K N : Nat → Nat} {F G : Nat → Nat → Nat} (hZ : ZL L K N F G) (h0 : Nat) (k_h0 : K h0 = 4) (I A : zH) {J' : zH} {B' : zH} (h : f_X4_takePrints F G h0 I A = some (J', B')) : ZMv l yX4_takePrints cX4_takePrints 3 none { frames := 2, cells := 0, slots := 0, locals := 47 } D cy L K N F G [.ref h0] I A J' B' := by
  refine ZMv.of (nL := 3) hZ rfl rfl (by decide) (Nat.le_of_ble_eq_true rfl) (fun p e s m args below meth c C hr => ?_)
  unfold f_X4_takePrints at h
  refine zr_lv (lv' := [(0, .ref h0)]) C [0] rfl ?_
  refine zr_aload_n C 0 rfl rfl dX4_takePrints_0 ?_
  refine zr_iconst (v := 0) C (by decide) dX4_takePrints_1 ?_
  refine zr_put (ci := 4) (k := 3) (ty := .int) C tyX4 k_h0 (by decide) rfl zinX4 tyX4_ok nmX4 (by decide) wd_33 rfl (by decide +kernel) rfl rfl (Nat.le_of_ble_eq_true rfl) (zset_4_3 F _ _ _) dX4_takePrints_2 ?_
  obtain ⟨I1, eI1, h⟩ := zlet_e h
  rw [← eI1]
  refine zr_iconst (v := 0) C (by decide) dX4_takePrints_5 ?_
  refine zr_istore_n (lv' := [(1, .int 0), (0, .ref h0)]) C rfl (by decide) rfl dX4_takePrints_6 ?_
  obtain ⟨i2, I3, A4, h5, h⟩ := zb3_e h
  refine zr_lv (lv' := [(0, .ref h0), (1, .int 0)]) C [1, 0] rfl ?_
  refine w_X4_takePrints_7 l D cy hZ C (Nat.le_of_ble_eq_true rfl) (Nat.le_of_ble_eq_true rfl) ⟨Nat.le_refl _, Nat.le_refl _⟩ h0 k_h0  2000 (0, I1, A) (i2, I3, A4) h5 ?_
  cases zso h
  exact zr_vret C hr dX4_takePrints_57

def f_X4_append (F G : Nat → Nat → Nat) (h0 : Nat) (p0 : Int32) (I A : zH) : Option (zH × zH) :=
  if 12 ≤ (I h0 2) then (
    some (I, A)
  ) else (
    zck (¬ (I h0 2 < 0 ∨ 12 ≤ (I h0 2).toNatClampNeg)) <|
    zlet (up2 A (F h0 0) (I h0 2).toNatClampNeg p0) fun A3 =>
    zlet (up2 I h0 2 ((I h0 2) + 1)) fun I4 =>
    zb2 (f_X4_takePrints F G h0 I4 A3) fun I5 A6 =>
    some (I5, A6)
  )
set_option maxHeartbeats 4000000 in
set_option maxRecDepth 100000 in
theorem c_X4_append (l : Launch) (D : va_G) (cy : Nat → ClassId) {L : List Nat} {K N : Nat → Nat} {F G : Nat → Nat → Nat} (hZ : ZL L K N F G) (h0 : Nat) (p0 : Int32) (k_h0 : K h0 = 4) (I A : zH) {J' : zH} {B' : zH} (h : f_X4_append F G h0 p0 I A = some (J', B')) : ZMv l yX4_append cX4_append 2 none { frames := 3, cells := 0, slots := 0, locals := 69 } D cy L K N F G [.ref h0, .int p0] I A J' B' := by
  refine ZMv.of (nL := 2) hZ rfl rfl (by decide) (Nat.le_of_ble_eq_true rfl) (fun p e s m args below meth c C hr => ?_)
  unfold f_X4_append at h
  refine zr_lv (lv' := [(0, .ref h0), (1, .int p0)]) C [0, 1] rfl ?_
  refine zr_aload_n C 0 rfl rfl dX4_append_0 ?_
  refine zr_get (ci := 4) (k := 2) (v := .int (I h0 2)) C k_h0 (by decide) rfl zinX4 (by decide) wd_31 rfl dX4_append_1 ?_
  refine zr_bipush (v := 12) C (by decide) dX4_append_4 ?_
  refine zr_icmp_ge (tgt := 33) C (by decide) dX4_append_6 (fun hc1 => ?_) (fun hc1 => ?_)
  · have h := zif_t hc1 h
    cases zso h
    exact zr_vret C hr dX4_append_33
  · have h := zif_f hc1 h
    refine zr_aload_n C 0 rfl rfl dX4_append_9 ?_
    refine zr_get (ci := 4) (k := 0) (v := .ref (F h0 0)) C k_h0 (by decide) rfl zinX4 (by decide) wd_29 rfl dX4_append_10 ?_
    refine zr_aload_n C 0 rfl rfl dX4_append_13 ?_
    refine zr_get (ci := 4) (k := 2) (v := .int (I h0 2)) C k_h0 (by decide) rfl zinX4 (by decide) wd_31 rfl dX4_append_14 ?_
    refine zr_iload_n C 1 rfl rfl dX4_append_17 ?_
    obtain ⟨hc2, h⟩ := zck_e h
    refine zr_iast C (zt40 hZ k_h0).1 (zt40 hZ k_h0).2 hc2 dX4_append_18 ?_
    obtain ⟨A3, eA3, h⟩ := zlet_e h
    rw [← eA3]
    refine zr_aload_n C 0 rfl rfl dX4_append_19 ?_
    refine zr_dup C rfl dX4_append_20 ?_
    refine zr_get (ci := 4) (k := 2) (v := .int (I h0 2)) C k_h0 (by decide) rfl zinX4 (by decide) wd_31 rfl dX4_append_21 ?_
    refine zr_iconst (v := 1) C (by decide) dX4_append_24 ?_
    refine zr_iadd C dX4_append_25 ?_
    refine zr_put (ci := 4) (k := 2) (ty := .int) C tyX4 k_h0 (by decide) rfl zinX4 tyX4_ok nmX4 (by decide) wd_31 rfl (by decide +kernel) rfl rfl (Nat.le_of_ble_eq_true rfl) (zset_4_2 F _ _ _) dX4_append_26 ?_
    obtain ⟨I4, eI4, h⟩ := zlet_e h
    rw [← eI4]
    refine zr_aload_n C 0 rfl rfl dX4_append_29 ?_
    obtain ⟨I5, A6, h7, h⟩ := zb2_e h
    refine zr_callVv (n := 0) (As := []) C (c_X4_takePrints l D cy hZ h0 k_h0 I4 A3 h7) wd_275 wd_277 wp_1 wd_2 wd_278 (by decide +kernel) ⟨(Nat.le_of_ble_eq_true rfl), (Nat.le_of_ble_eq_true rfl)⟩ rfl rfl ⟨Nat.le_refl _, Nat.le_refl _⟩ k_h0 (by decide) rfl rfl rfl (Nat.le_of_ble_eq_true rfl) dX4_append_30 ?_
    cases zso h
    exact zr_vret C hr dX4_append_33

def g_X4_dropFirst_11 (F G : Nat → Nat → Nat) (v0 : Nat) (v2 : Int32) (v3 : Int32) (A : zH) (I : zH) : Option ((Int32 × zH) ⊕ (Int32 × zH)) :=
  if (I v0 2) ≤ v3 then (
    some (.inr (v3, A))
  ) else (
    zck (¬ (v3 < 0 ∨ 12 ≤ v3.toNatClampNeg)) <|
    zck (¬ (v3 - v2 < 0 ∨ 12 ≤ (v3 - v2).toNatClampNeg)) <|
    zlet (up2 A (F v0 0) (v3 - v2).toNatClampNeg (A (F v0 0) v3.toNatClampNeg)) fun A4 =>
    some (.inl (v3 + 1, A4))
  )
def f_X4_dropFirst (F G : Nat → Nat → Nat) (h0 : Nat) (p0 : Int32) (I A : zH) : Option (zH × zH) :=
  zb2 (zIt (fun x => g_X4_dropFirst_11 F G h0 (if (I h0 2) < p0 then (I h0 2) else p0) x.1 x.2 I ) 2000 (if (I h0 2) < p0 then (I h0 2) else p0, A)) fun i1 A2 =>
  zlet (up2 I h0 2 ((I h0 2) - (if (I h0 2) < p0 then (I h0 2) else p0))) fun I3 =>
  zb2 (f_X4_takePrints F G h0 I3 A2) fun I4 A5 =>
  some (I4, A5)
set_option maxHeartbeats 4000000 in
set_option maxRecDepth 100000 in
theorem wb_X4_dropFirst_11 (l : Launch) (D : va_G) (cy : Nat → ClassId) {L : List Nat} {K N : Nat → Nat} {F G : Nat → Nat → Nat} (hZ : ZL L K N F G) {p : Program} {e : Env} {R : Room} {s : State} {m : MethodId} {args : Array Value} {below : List Frame} {meth : Method} {c : Code} {cells slots : Nat} {Q : State → Prop} (C : ZC p s m args meth c cX4_dropFirst yX4_dropFirst.cls 4 D cy L K N F G) (hRf : 0 ≤ R.frames) (hRl : 0 ≤ R.locals) (hRc : cells ≤ R.cells ∧ slots ≤ R.slots)  (v0 : Nat) (v2 : Int32) (k0 : K v0 = 4) (I : zH) (v3 : Int32) (A : zH) (o : (Int32 × zH) ⊕ (Int32 × zH)) (h : g_X4_dropFirst_11 F G v0 v2 v3 A I = some o)
    (hg : ∀ y : Int32 × zH, o = .inl y → ZW p l e R s m args below meth c 4 D cy L K N F G cells slots Q I y.2 11 [(0, .ref v0), (2, .int v2), (3, .int y.1)] [])
    (hx : ∀ y : Int32 × zH, o = .inr y → ZW p l e R s m args below meth c 4 D cy L K N F G cells slots Q I y.2 39 [(0, .ref v0), (2, .int v2), (3, .int y.1)] []) : ZW p l e R s m args below meth c 4 D cy L K N F G cells slots Q I A 11 [(0, .ref v0), (2, .int v2), (3, .int v3)] [] := by
  unfold g_X4_dropFirst_11 at h
  refine zr_iload_n C 2 rfl rfl dX4_dropFirst_11 ?_
  refine zr_aload_n C 0 rfl rfl dX4_dropFirst_12 ?_
  refine zr_get (ci := 4) (k := 2) (v := .int (I v0 2)) C k0 (by decide) rfl zinX4 (by decide) wd_31 rfl dX4_dropFirst_13 ?_
  refine zr_icmp_ge (tgt := 39) C (by decide) dX4_dropFirst_16 (fun hc1 => ?_) (fun hc1 => ?_)
  · have h := zif_t hc1 h
    obtain rfl := zso h
    refine zr_lv (lv' := [(0, .ref v0), (2, .int v2), (3, .int v3)]) C [0, 1, 2] rfl ?_
    exact hx _ rfl
  · have h := zif_f hc1 h
    refine zr_aload_n C 0 rfl rfl dX4_dropFirst_19 ?_
    refine zr_get (ci := 4) (k := 0) (v := .ref (F v0 0)) C k0 (by decide) rfl zinX4 (by decide) wd_29 rfl dX4_dropFirst_20 ?_
    refine zr_iload_n C 2 rfl rfl dX4_dropFirst_23 ?_
    refine zr_iload_n C 1 rfl rfl dX4_dropFirst_24 ?_
    refine zr_isub C dX4_dropFirst_25 ?_
    refine zr_aload_n C 0 rfl rfl dX4_dropFirst_26 ?_
    refine zr_get (ci := 4) (k := 0) (v := .ref (F v0 0)) C k0 (by decide) rfl zinX4 (by decide) wd_29 rfl dX4_dropFirst_27 ?_
    refine zr_iload_n C 2 rfl rfl dX4_dropFirst_30 ?_
    obtain ⟨hc2, h⟩ := zck_e h
    refine zr_iald C (zt40 hZ k0).1 (zt40 hZ k0).2 hc2 dX4_dropFirst_31 ?_
    obtain ⟨hc3, h⟩ := zck_e h
    refine zr_iast C (zt40 hZ k0).1 (zt40 hZ k0).2 hc3 dX4_dropFirst_32 ?_
    obtain ⟨A4, eA4, h⟩ := zlet_e h
    rw [← eA4]
    refine zr_iinc (v := v3 + 1) (lv' := [(3, .int (v3 + 1)), (0, .ref v0), (2, .int v2)]) C 2 rfl rfl (by decide) rfl dX4_dropFirst_33 ?_
    refine zr_goto (tgt := 11) C (by decide) dX4_dropFirst_36 ?_
    obtain rfl := zso h
    refine zr_lv (lv' := [(0, .ref v0), (2, .int v2), (3, .int (v3 + 1))]) C [1, 2, 0] rfl ?_
    exact hg _ rfl
set_option maxHeartbeats 4000000 in
set_option maxRecDepth 100000 in
theorem w_X4_dropFirst_11 (l : Launch) (D : va_G) (cy : Nat → ClassId) {L : List Nat} {K N : Nat → Nat} {F G : Nat → Nat → Nat} (hZ : ZL L K N F G) {p : Program} {e : Env} {R : Room} {s : State} {m : MethodId} {args : Array Value} {below : List Frame} {meth : Method} {c : Code} {cells slots : Nat} {Q : State → Prop} (C : ZC p s m args meth c cX4_dropFirst yX4_dropFirst.cls 4 D cy L K N F G) (hRf : 0 ≤ R.frames) (hRl : 0 ≤ R.locals) (hRc : cells ≤ R.cells ∧ slots ≤ R.slots)  (v0 : Nat) (v2 : Int32) (k0 : K v0 = 4) (I : zH) (n : Nat) (x : Int32 × zH) (o : Int32 × zH) (h : zIt (fun x => g_X4_dropFirst_11 F G v0 v2 x.1 x.2 I) n x = some o)
    (hx : ZW p l e R s m args below meth c 4 D cy L K N F G cells slots Q I o.2 39 [(0, .ref v0), (2, .int v2), (3, .int o.1)] []) : ZW p l e R s m args below meth c 4 D cy L K N F G cells slots Q I x.2 11 [(0, .ref v0), (2, .int v2), (3, .int x.1)] [] := by
  induction n generalizing x with
  | zero => cases h
  | succ n ih =>
    unfold zIt at h
    cases hb : g_X4_dropFirst_11 F G v0 v2 x.1 x.2 I with
    | none => rw [hb] at h; cases h
    | some q =>
      rw [hb] at h
      refine wb_X4_dropFirst_11 l D cy hZ C hRf hRl hRc v0 v2 k0 I x.1 x.2 q hb (fun y hy => ?_) (fun y hy => ?_)
      · subst hy; exact ih y h
      · subst hy; cases h; exact hx
set_option maxHeartbeats 4000000 in
set_option maxRecDepth 100000 in
theorem c_X4_dropFirst (l : Launch) (D : va_G) (cy : Nat → ClassId) {L : List Nat} {K N : Nat → Nat} {F G : Nat → Nat → Nat} (hZ : ZL L K N F G) (h0 : Nat) (p0 : Int32) (k_h0 : K h0 = 4) (I A : zH) {J' : zH} {B' : zH} (h : f_X4_dropFirst F G h0 p0 I A = some (J', B')) : ZMv l yX4_dropFirst cX4_dropFirst 4 none { frames := 3, cells := 0, slots := 0, locals := 69 } D cy L K N F G [.ref h0, .int p0] I A J' B' := by
  refine ZMv.of (nL := 4) hZ rfl rfl (by decide) (Nat.le_of_ble_eq_true rfl) (fun p e s m args below meth c C hr => ?_)
  unfold f_X4_dropFirst at h
  refine zr_lv (lv' := [(0, .ref h0), (1, .int p0)]) C [0, 1] rfl ?_
  refine zr_iload_n C 1 rfl rfl dX4_dropFirst_0 ?_
  refine zr_aload_n C 0 rfl rfl dX4_dropFirst_1 ?_
  refine zr_get (ci := 4) (k := 2) (v := .int (I h0 2)) C k_h0 (by decide) rfl zinX4 (by decide) wd_31 rfl dX4_dropFirst_2 ?_
  refine zr_min C wd_299 wd_300 wd_14 wd_301 (Nat.le_of_ble_eq_true rfl) (Nat.le_of_ble_eq_true rfl) ⟨Nat.le_refl _, Nat.le_refl _⟩ dX4_dropFirst_5 ?_
  refine zr_istore_n (lv' := [(2, .int (if (I h0 2) < p0 then (I h0 2) else p0)), (0, .ref h0), (1, .int p0)]) C rfl (by decide) rfl dX4_dropFirst_8 ?_
  refine zr_iload_n C 0 rfl rfl dX4_dropFirst_9 ?_
  refine zr_istore_n (lv' := [(3, .int (if (I h0 2) < p0 then (I h0 2) else p0)), (2, .int (if (I h0 2) < p0 then (I h0 2) else p0)), (0, .ref h0), (1, .int p0)]) C rfl (by decide) rfl dX4_dropFirst_10 ?_
  obtain ⟨i1, A2, h8, h⟩ := zb2_e h
  refine zr_lv (lv' := [(0, .ref h0), (2, .int (if (I h0 2) < p0 then (I h0 2) else p0)), (3, .int (if (I h0 2) < p0 then (I h0 2) else p0))]) C [2, 1, 0] rfl ?_
  refine w_X4_dropFirst_11 l D cy hZ C (Nat.le_of_ble_eq_true rfl) (Nat.le_of_ble_eq_true rfl) ⟨Nat.le_refl _, Nat.le_refl _⟩ h0 (if (I h0 2) < p0 then (I h0 2) else p0) k_h0 I  2000 (if (I h0 2) < p0 then (I h0 2) else p0, A) (i1, A2) h8 ?_
  refine zr_aload_n C 0 rfl rfl dX4_dropFirst_39 ?_
  refine zr_dup C rfl dX4_dropFirst_40 ?_
  refine zr_get (ci := 4) (k := 2) (v := .int (I h0 2)) C k_h0 (by decide) rfl zinX4 (by decide) wd_31 rfl dX4_dropFirst_41 ?_
  refine zr_iload_n C 1 rfl rfl dX4_dropFirst_44 ?_
  refine zr_isub C dX4_dropFirst_45 ?_
  refine zr_put (ci := 4) (k := 2) (ty := .int) C tyX4 k_h0 (by decide) rfl zinX4 tyX4_ok nmX4 (by decide) wd_31 rfl (by decide +kernel) rfl rfl (Nat.le_of_ble_eq_true rfl) (zset_4_2 F _ _ _) dX4_dropFirst_46 ?_
  obtain ⟨I3, eI3, h⟩ := zlet_e h
  rw [← eI3]
  refine zr_aload_n C 0 rfl rfl dX4_dropFirst_49 ?_
  obtain ⟨I4, A5, h6, h⟩ := zb2_e h
  refine zr_callVv (n := 0) (As := []) C (c_X4_takePrints l D cy hZ h0 k_h0 I3 A2 h6) wd_275 wd_277 wp_1 wd_2 wd_278 (by decide +kernel) ⟨(Nat.le_of_ble_eq_true rfl), (Nat.le_of_ble_eq_true rfl)⟩ rfl rfl ⟨Nat.le_refl _, Nat.le_refl _⟩ k_h0 (by decide) rfl rfl rfl (Nat.le_of_ble_eq_true rfl) dX4_dropFirst_50 ?_
  cases zso h
  exact zr_vret C hr dX4_dropFirst_53

def g_X4_become_10 (F G : Nat → Nat → Nat) (v0 : Nat) (v1 : Nat) (v2 : Int32) (v3 : Int32) (A : zH) (I : zH) : Option ((Int32 × zH) ⊕ (Int32 × zH)) :=
  if (I v0 2) ≤ v3 then (
    some (.inr (v3, A))
  ) else (
    zck (¬ (v3 < 0 ∨ 12 ≤ v3.toNatClampNeg)) <|
    if 10 ≤ (A (F v1 0) v3.toNatClampNeg) then (
      zck (¬ (v3 < 0 ∨ 12 ≤ v3.toNatClampNeg)) <|
      zlet (up2 A (F v0 0) v3.toNatClampNeg (A (F v1 0) v3.toNatClampNeg)) fun A5 =>
      some (.inl (v3 + 1, A5))
    ) else (
      zck (¬ (v3 < 0 ∨ 12 ≤ v3.toNatClampNeg)) <|
      zlet (up2 A (F v0 0) v3.toNatClampNeg (((A (F v1 0) v3.toNatClampNeg) + v2) - ((A (F v1 0) v3.toNatClampNeg) + v2) / 10 * 10)) fun A7 =>
      some (.inl (v3 + 1, A7))
    )
  )
def f_X4_become (F G : Nat → Nat → Nat) (h0 : Nat) (r0 : Nat) (p1 : Int32) (I A : zH) : Option (zH × zH) :=
  zlet (up2 I h0 2 (I r0 2)) fun I1 =>
  zb2 (zIt (fun x => g_X4_become_10 F G h0 r0 p1 x.1 x.2 I1 ) 2000 (0, A)) fun i2 A3 =>
  zb2 (f_X4_takePrints F G h0 I1 A3) fun I4 A5 =>
  some (I4, A5)
set_option maxHeartbeats 4000000 in
set_option maxRecDepth 100000 in
theorem wb_X4_become_10 (l : Launch) (D : va_G) (cy : Nat → ClassId) {L : List Nat} {K N : Nat → Nat} {F G : Nat → Nat → Nat} (hZ : ZL L K N F G) {p : Program} {e : Env} {R : Room} {s : State} {m : MethodId} {args : Array Value} {below : List Frame} {meth : Method} {c : Code} {cells slots : Nat} {Q : State → Prop} (C : ZC p s m args meth c cX4_become yX4_become.cls 5 D cy L K N F G) (hRf : 0 ≤ R.frames) (hRl : 0 ≤ R.locals) (hRc : cells ≤ R.cells ∧ slots ≤ R.slots)  (v0 : Nat) (v1 : Nat) (v2 : Int32) (k0 : K v0 = 4) (k1 : K v1 = 4) (I : zH) (v3 : Int32) (A : zH) (o : (Int32 × zH) ⊕ (Int32 × zH)) (h : g_X4_become_10 F G v0 v1 v2 v3 A I = some o)
    (hg : ∀ y : Int32 × zH, o = .inl y → ZW p l e R s m args below meth c 5 D cy L K N F G cells slots Q I y.2 10 [(0, .ref v0), (1, .ref v1), (2, .int v2), (3, .int y.1)] [])
    (hx : ∀ y : Int32 × zH, o = .inr y → ZW p l e R s m args below meth c 5 D cy L K N F G cells slots Q I y.2 57 [(0, .ref v0), (1, .ref v1), (2, .int v2), (3, .int y.1)] []) : ZW p l e R s m args below meth c 5 D cy L K N F G cells slots Q I A 10 [(0, .ref v0), (1, .ref v1), (2, .int v2), (3, .int v3)] [] := by
  unfold g_X4_become_10 at h
  refine zr_iload_n C 3 rfl rfl dX4_become_10 ?_
  refine zr_aload_n C 0 rfl rfl dX4_become_11 ?_
  refine zr_get (ci := 4) (k := 2) (v := .int (I v0 2)) C k0 (by decide) rfl zinX4 (by decide) wd_31 rfl dX4_become_12 ?_
  refine zr_icmp_ge (tgt := 57) C (by decide) dX4_become_15 (fun hc1 => ?_) (fun hc1 => ?_)
  · have h := zif_t hc1 h
    obtain rfl := zso h
    refine zr_lv (lv' := [(0, .ref v0), (1, .ref v1), (2, .int v2), (3, .int v3)]) C [0, 1, 2, 3] rfl ?_
    exact hx _ rfl
  · have h := zif_f hc1 h
    refine zr_aload_n C 1 rfl rfl dX4_become_18 ?_
    refine zr_get (ci := 4) (k := 0) (v := .ref (F v1 0)) C k1 (by decide) rfl zinX4 (by decide) wd_29 rfl dX4_become_19 ?_
    refine zr_iload_n C 3 rfl rfl dX4_become_22 ?_
    obtain ⟨hc2, h⟩ := zck_e h
    refine zr_iald C (zt40 hZ k1).1 (zt40 hZ k1).2 hc2 dX4_become_23 ?_
    refine zr_istore (lv' := [(4, .int (A (F v1 0) v3.toNatClampNeg)), (0, .ref v0), (1, .ref v1), (2, .int v2), (3, .int v3)]) C (by decide) rfl dX4_become_24 ?_
    refine zr_aload_n C 1 rfl rfl dX4_become_26 ?_
    refine zr_get (ci := 4) (k := 0) (v := .ref (F v0 0)) C k0 (by decide) rfl zinX4 (by decide) wd_29 rfl dX4_become_27 ?_
    refine zr_iload_n C 4 rfl rfl dX4_become_30 ?_
    refine zr_iload C 0 rfl dX4_become_31 ?_
    refine zr_bipush (v := 10) C (by decide) dX4_become_33 ?_
    refine zr_icmp_ge (tgt := 48) C (by decide) dX4_become_35 (fun hc3 => ?_) (fun hc3 => ?_)
    · have h := zif_t hc3 h
      refine zr_iload C 0 rfl dX4_become_48 ?_
      obtain ⟨hc4, h⟩ := zck_e h
      refine zr_iast C (zt40 hZ k0).1 (zt40 hZ k0).2 hc4 dX4_become_50 ?_
      obtain ⟨A5, eA5, h⟩ := zlet_e h
      rw [← eA5]
      refine zr_iinc (v := v3 + 1) (lv' := [(3, .int (v3 + 1)), (4, .int (A (F v1 0) v3.toNatClampNeg)), (0, .ref v0), (1, .ref v1), (2, .int v2)]) C 4 rfl rfl (by decide) rfl dX4_become_51 ?_
      refine zr_goto (tgt := 10) C (by decide) dX4_become_54 ?_
      obtain rfl := zso h
      refine zr_lv (lv' := [(0, .ref v0), (1, .ref v1), (2, .int v2), (3, .int (v3 + 1))]) C [2, 3, 4, 0] rfl ?_
      exact hg _ rfl
    · have h := zif_f hc3 h
      refine zr_iload C 0 rfl dX4_become_38 ?_
      refine zr_iload_n C 3 rfl rfl dX4_become_40 ?_
      refine zr_iadd C dX4_become_41 ?_
      refine zr_bipush (v := 10) C (by decide) dX4_become_42 ?_
      refine zr_irem C (by decide) dX4_become_44 ?_
      refine zr_goto (tgt := 50) C (by decide) dX4_become_45 ?_
      obtain ⟨hc6, h⟩ := zck_e h
      refine zr_iast C (zt40 hZ k0).1 (zt40 hZ k0).2 hc6 dX4_become_50 ?_
      obtain ⟨A7, eA7, h⟩ := zlet_e h
      rw [← eA7]
      refine zr_iinc (v := v3 + 1) (lv' := [(3, .int (v3 + 1)), (4, .int (A (F v1 0) v3.toNatClampNeg)), (0, .ref v0), (1, .ref v1), (2, .int v2)]) C 4 rfl rfl (by decide) rfl dX4_become_51 ?_
      refine zr_goto (tgt := 10) C (by decide) dX4_become_54 ?_
      obtain rfl := zso h
      refine zr_lv (lv' := [(0, .ref v0), (1, .ref v1), (2, .int v2), (3, .int (v3 + 1))]) C [2, 3, 4, 0] rfl ?_
      exact hg _ rfl
set_option maxHeartbeats 4000000 in
set_option maxRecDepth 100000 in
theorem w_X4_become_10 (l : Launch) (D : va_G) (cy : Nat → ClassId) {L : List Nat} {K N : Nat → Nat} {F G : Nat → Nat → Nat} (hZ : ZL L K N F G) {p : Program} {e : Env} {R : Room} {s : State} {m : MethodId} {args : Array Value} {below : List Frame} {meth : Method} {c : Code} {cells slots : Nat} {Q : State → Prop} (C : ZC p s m args meth c cX4_become yX4_become.cls 5 D cy L K N F G) (hRf : 0 ≤ R.frames) (hRl : 0 ≤ R.locals) (hRc : cells ≤ R.cells ∧ slots ≤ R.slots)  (v0 : Nat) (v1 : Nat) (v2 : Int32) (k0 : K v0 = 4) (k1 : K v1 = 4) (I : zH) (n : Nat) (x : Int32 × zH) (o : Int32 × zH) (h : zIt (fun x => g_X4_become_10 F G v0 v1 v2 x.1 x.2 I) n x = some o)
    (hx : ZW p l e R s m args below meth c 5 D cy L K N F G cells slots Q I o.2 57 [(0, .ref v0), (1, .ref v1), (2, .int v2), (3, .int o.1)] []) : ZW p l e R s m args below meth c 5 D cy L K N F G cells slots Q I x.2 10 [(0, .ref v0), (1, .ref v1), (2, .int v2), (3, .int x.1)] [] := by
  induction n generalizing x with
  | zero => cases h
  | succ n ih =>
    unfold zIt at h
    cases hb : g_X4_become_10 F G v0 v1 v2 x.1 x.2 I with
    | none => rw [hb] at h; cases h
    | some q =>
      rw [hb] at h
      refine wb_X4_become_10 l D cy hZ C hRf hRl hRc v0 v1 v2 k0 k1 I x.1 x.2 q hb (fun y hy => ?_) (fun y hy => ?_)
      · subst hy; exact ih y h
      · subst hy; cases h; exact hx
set_option maxHeartbeats 4000000 in
set_option maxRecDepth 100000 in
theorem c_X4_become (l : Launch) (D : va_G) (cy : Nat → ClassId) {L : List Nat} {K N : Nat → Nat} {F G : Nat → Nat → Nat} (hZ : ZL L K N F G) (h0 : Nat) (r0 : Nat) (p1 : Int32) (k_h0 : K h0 = 4) (k_r0 : K r0 = 4) (I A : zH) {J' : zH} {B' : zH} (h : f_X4_become F G h0 r0 p1 I A = some (J', B')) : ZMv l yX4_become cX4_become 5 none { frames := 3, cells := 0, slots := 0, locals := 69 } D cy L K N F G [.ref h0, .ref r0, .int p1] I A J' B' := by
  refine ZMv.of (nL := 5) hZ rfl rfl (by decide) (Nat.le_of_ble_eq_true rfl) (fun p e s m args below meth c C hr => ?_)
  unfold f_X4_become at h
  refine zr_lv (lv' := [(0, .ref h0), (1, .ref r0), (2, .int p1)]) C [0, 1, 2] rfl ?_
  refine zr_aload_n C 0 rfl rfl dX4_become_0 ?_
  refine zr_aload_n C 1 rfl rfl dX4_become_1 ?_
  refine zr_get (ci := 4) (k := 2) (v := .int (I r0 2)) C k_r0 (by decide) rfl zinX4 (by decide) wd_31 rfl dX4_become_2 ?_
  refine zr_put (ci := 4) (k := 2) (ty := .int) C tyX4 k_h0 (by decide) rfl zinX4 tyX4_ok nmX4 (by decide) wd_31 rfl (by decide +kernel) rfl rfl (Nat.le_of_ble_eq_true rfl) (zset_4_2 F _ _ _) dX4_become_5 ?_
  obtain ⟨I1, eI1, h⟩ := zlet_e h
  rw [← eI1]
  refine zr_iconst (v := 0) C (by decide) dX4_become_8 ?_
  refine zr_istore_n (lv' := [(3, .int 0), (0, .ref h0), (1, .ref r0), (2, .int p1)]) C rfl (by decide) rfl dX4_become_9 ?_
  obtain ⟨i2, A3, h8, h⟩ := zb2_e h
  refine zr_lv (lv' := [(0, .ref h0), (1, .ref r0), (2, .int p1), (3, .int 0)]) C [1, 2, 3, 0] rfl ?_
  refine w_X4_become_10 l D cy hZ C (Nat.le_of_ble_eq_true rfl) (Nat.le_of_ble_eq_true rfl) ⟨Nat.le_refl _, Nat.le_refl _⟩ h0 r0 p1 k_h0 k_r0 I1  2000 (0, A) (i2, A3) h8 ?_
  refine zr_aload_n C 0 rfl rfl dX4_become_57 ?_
  obtain ⟨I4, A5, h6, h⟩ := zb2_e h
  refine zr_callVv (n := 0) (As := []) C (c_X4_takePrints l D cy hZ h0 k_h0 I1 A3 h6) wd_275 wd_277 wp_1 wd_2 wd_278 (by decide +kernel) ⟨(Nat.le_of_ble_eq_true rfl), (Nat.le_of_ble_eq_true rfl)⟩ rfl rfl ⟨Nat.le_refl _, Nat.le_refl _⟩ k_h0 (by decide) rfl rfl rfl (Nat.le_of_ble_eq_true rfl) dX4_become_58 ?_
  cases zso h
  exact zr_vret C hr dX4_become_61
end
section
def f_X0_licencesOf (F G : Nat → Nat → Nat) (h0 : Nat) (p0 : Int32) (I A : zH) : Option (Int32) :=
  if p0 = (-1) then (
    some 0
  ) else (
    zck (¬ (p0 < 0 ∨ 16 ≤ p0.toNatClampNeg)) <|
    some (A (F h0 0) p0.toNatClampNeg)
  )
set_option maxHeartbeats 4000000 in
set_option maxRecDepth 100000 in
theorem c_X0_licencesOf (l : Launch) (D : va_G) (cy : Nat → ClassId) {L : List Nat} {K N : Nat → Nat} {F G : Nat → Nat → Nat} (hZ : ZL L K N F G) (h0 : Nat) (p0 : Int32) (k_h0 : K h0 = 0) (I A : zH) {r : Int32} (h : f_X0_licencesOf F G h0 p0 I A = some r) : ZMi l yX0_licencesOf cX0_licencesOf 2 (some .int) { frames := 0, cells := 0, slots := 0, locals := 0 } D cy L K N F G [.ref h0, .int p0] I A r I A := by
  refine ZMi.of (nL := 2) hZ rfl rfl (by decide) (Nat.le_of_ble_eq_true rfl) (fun p e s m args below meth c C hr => ?_)
  unfold f_X0_licencesOf at h
  refine zr_lv (lv' := [(0, .ref h0), (1, .int p0)]) C [0, 1] rfl ?_
  refine zr_iload_n C 1 rfl rfl dX0_licencesOf_0 ?_
  refine zr_iconst (v := (-1)) C (by decide) dX0_licencesOf_1 ?_
  refine zr_icmp_ne (tgt := 9) C (by decide) dX0_licencesOf_2 (fun hc1 => ?_) (fun hc1 => ?_)
  · have h := zif_f hc1 h
    refine zr_aload_n C 0 rfl rfl dX0_licencesOf_9 ?_
    refine zr_get (ci := 0) (k := 0) (v := .ref (F h0 0)) C k_h0 (by decide) rfl zinX0 (by decide) wd_59 rfl dX0_licencesOf_10 ?_
    refine zr_iload_n C 1 rfl rfl dX0_licencesOf_13 ?_
    obtain ⟨hc2, h⟩ := zck_e h
    refine zr_iald C (zt0 hZ k_h0 0 (by decide)).1 (zt0 hZ k_h0 0 (by decide)).2 hc2 dX0_licencesOf_14 ?_
    obtain rfl := zso h
    exact zr_iret C hr dX0_licencesOf_15
  · have h := zif_t hc1 h
    refine zr_iconst (v := 0) C (by decide) dX0_licencesOf_5 ?_
    refine zr_goto (tgt := 15) C (by decide) dX0_licencesOf_6 ?_
    obtain rfl := zso h
    exact zr_iret C hr dX0_licencesOf_15

def f_X0_isClash (F G : Nat → Nat → Nat) (h0 : Nat) (p0 : Int32) (p1 : Int32) (p2 : Int32) (I A : zH) : Option (Int32) :=
  if p0 = (-1) then (
    some 0
  ) else (
    if p1 = (-1) then (
      some 0
    ) else (
      if p2 = 0 then (
        zck (¬ (p0 < 0 ∨ 16 ≤ p0.toNatClampNeg)) <|
        zck (¬ (p1 < 0 ∨ 16 ≤ p1.toNatClampNeg)) <|
        if ((A (F h0 2) p0.toNatClampNeg) &&& (A (F h0 0) p1.toNatClampNeg)) = 0 then (
          some 0
        ) else (
          some 1
        )
      ) else (
        zck (¬ (p0 < 0 ∨ 16 ≤ p0.toNatClampNeg)) <|
        zck (¬ (p1 < 0 ∨ 16 ≤ p1.toNatClampNeg)) <|
        if ((A (F h0 3) p0.toNatClampNeg) &&& (A (F h0 0) p1.toNatClampNeg)) = 0 then (
          some 0
        ) else (
          some 1
        )
      )
    )
  )
set_option maxHeartbeats 4000000 in
set_option maxRecDepth 100000 in
theorem c_X0_isClash (l : Launch) (D : va_G) (cy : Nat → ClassId) {L : List Nat} {K N : Nat → Nat} {F G : Nat → Nat → Nat} (hZ : ZL L K N F G) (h0 : Nat) (p0 : Int32) (p1 : Int32) (p2 : Int32) (k_h0 : K h0 = 0) (I A : zH) {r : Int32} (h : f_X0_isClash F G h0 p0 p1 p2 I A = some r) : ZMi l yX0_isClash cX0_isClash 5 (some .boolean) { frames := 0, cells := 0, slots := 0, locals := 0 } D cy L K N F G [.ref h0, .int p0, .int p1, .int p2] I A r I A := by
  refine ZMi.of (nL := 5) hZ rfl rfl (by decide) (Nat.le_of_ble_eq_true rfl) (fun p e s m args below meth c C hr => ?_)
  unfold f_X0_isClash at h
  refine zr_lv (lv' := [(0, .ref h0), (1, .int p0), (2, .int p1), (3, .int p2)]) C [0, 1, 2, 3] rfl ?_
  refine zr_iload_n C 1 rfl rfl dX0_isClash_0 ?_
  refine zr_iconst (v := (-1)) C (by decide) dX0_isClash_1 ?_
  refine zr_icmp_eq (tgt := 10) C (by decide) dX0_isClash_2 (fun hc1 => ?_) (fun hc1 => ?_)
  · have h := zif_t hc1 h
    refine zr_iconst (v := 0) C (by decide) dX0_isClash_10 ?_
    obtain rfl := zso h
    exact zr_zret C hr rfl dX0_isClash_11
  · have h := zif_f hc1 h
    refine zr_iload_n C 2 rfl rfl dX0_isClash_5 ?_
    refine zr_iconst (v := (-1)) C (by decide) dX0_isClash_6 ?_
    refine zr_icmp_ne (tgt := 12) C (by decide) dX0_isClash_7 (fun hc2 => ?_) (fun hc2 => ?_)
    · have h := zif_f hc2 h
      refine zr_iload_n C 3 rfl rfl dX0_isClash_12 ?_
      refine zr_if_eq (tgt := 25) C (by decide) dX0_isClash_13 (fun hc3 => ?_) (fun hc3 => ?_)
      · have h := zif_t hc3 h
        refine zr_aload_n C 0 rfl rfl dX0_isClash_25 ?_
        refine zr_get (ci := 0) (k := 2) (v := .ref (F h0 2)) C k_h0 (by decide) rfl zinX0 (by decide) wd_61 rfl dX0_isClash_26 ?_
        refine zr_iload_n C 1 rfl rfl dX0_isClash_29 ?_
        obtain ⟨hc4, h⟩ := zck_e h
        refine zr_iald C (zt0 hZ k_h0 2 (by decide)).1 (zt0 hZ k_h0 2 (by decide)).2 hc4 dX0_isClash_30 ?_
        refine zr_istore (lv' := [(4, .int (A (F h0 2) p0.toNatClampNeg)), (0, .ref h0), (1, .int p0), (2, .int p1), (3, .int p2)]) C (by decide) rfl dX0_isClash_31 ?_
        refine zr_iload C 0 rfl dX0_isClash_33 ?_
        refine zr_aload_n C 1 rfl rfl dX0_isClash_35 ?_
        refine zr_get (ci := 0) (k := 0) (v := .ref (F h0 0)) C k_h0 (by decide) rfl zinX0 (by decide) wd_59 rfl dX0_isClash_36 ?_
        refine zr_iload_n C 3 rfl rfl dX0_isClash_39 ?_
        obtain ⟨hc5, h⟩ := zck_e h
        refine zr_iald C (zt0 hZ k_h0 0 (by decide)).1 (zt0 hZ k_h0 0 (by decide)).2 hc5 dX0_isClash_40 ?_
        refine zr_iand C dX0_isClash_41 ?_
        refine zr_if_eq (tgt := 49) C (by decide) dX0_isClash_42 (fun hc6 => ?_) (fun hc6 => ?_)
        · have h := zif_t hc6 h
          refine zr_iconst (v := 0) C (by decide) dX0_isClash_49 ?_
          obtain rfl := zso h
          exact zr_zret C hr rfl dX0_isClash_50
        · have h := zif_f hc6 h
          refine zr_iconst (v := 1) C (by decide) dX0_isClash_45 ?_
          refine zr_goto (tgt := 50) C (by decide) dX0_isClash_46 ?_
          obtain rfl := zso h
          exact zr_zret C hr rfl dX0_isClash_50
      · have h := zif_f hc3 h
        refine zr_aload_n C 0 rfl rfl dX0_isClash_16 ?_
        refine zr_get (ci := 0) (k := 3) (v := .ref (F h0 3)) C k_h0 (by decide) rfl zinX0 (by decide) wd_62 rfl dX0_isClash_17 ?_
        refine zr_iload_n C 1 rfl rfl dX0_isClash_20 ?_
        obtain ⟨hc7, h⟩ := zck_e h
        refine zr_iald C (zt0 hZ k_h0 3 (by decide)).1 (zt0 hZ k_h0 3 (by decide)).2 hc7 dX0_isClash_21 ?_
        refine zr_goto (tgt := 31) C (by decide) dX0_isClash_22 ?_
        refine zr_istore (lv' := [(4, .int (A (F h0 3) p0.toNatClampNeg)), (0, .ref h0), (1, .int p0), (2, .int p1), (3, .int p2)]) C (by decide) rfl dX0_isClash_31 ?_
        refine zr_iload C 0 rfl dX0_isClash_33 ?_
        refine zr_aload_n C 1 rfl rfl dX0_isClash_35 ?_
        refine zr_get (ci := 0) (k := 0) (v := .ref (F h0 0)) C k_h0 (by decide) rfl zinX0 (by decide) wd_59 rfl dX0_isClash_36 ?_
        refine zr_iload_n C 3 rfl rfl dX0_isClash_39 ?_
        obtain ⟨hc8, h⟩ := zck_e h
        refine zr_iald C (zt0 hZ k_h0 0 (by decide)).1 (zt0 hZ k_h0 0 (by decide)).2 hc8 dX0_isClash_40 ?_
        refine zr_iand C dX0_isClash_41 ?_
        refine zr_if_eq (tgt := 49) C (by decide) dX0_isClash_42 (fun hc9 => ?_) (fun hc9 => ?_)
        · have h := zif_t hc9 h
          refine zr_iconst (v := 0) C (by decide) dX0_isClash_49 ?_
          obtain rfl := zso h
          exact zr_zret C hr rfl dX0_isClash_50
        · have h := zif_f hc9 h
          refine zr_iconst (v := 1) C (by decide) dX0_isClash_45 ?_
          refine zr_goto (tgt := 50) C (by decide) dX0_isClash_46 ?_
          obtain rfl := zso h
          exact zr_zret C hr rfl dX0_isClash_50
    · have h := zif_t hc2 h
      refine zr_iconst (v := 0) C (by decide) dX0_isClash_10 ?_
      obtain rfl := zso h
      exact zr_zret C hr rfl dX0_isClash_11

def f_X0_dutiesOf (F G : Nat → Nat → Nat) (h0 : Nat) (p0 : Int32) (I A : zH) : Option (Int32) :=
  if p0 = (-1) then (
    some 0
  ) else (
    zck (¬ (p0 < 0 ∨ 16 ≤ p0.toNatClampNeg)) <|
    some (A (F h0 1) p0.toNatClampNeg)
  )
set_option maxHeartbeats 4000000 in
set_option maxRecDepth 100000 in
theorem c_X0_dutiesOf (l : Launch) (D : va_G) (cy : Nat → ClassId) {L : List Nat} {K N : Nat → Nat} {F G : Nat → Nat → Nat} (hZ : ZL L K N F G) (h0 : Nat) (p0 : Int32) (k_h0 : K h0 = 0) (I A : zH) {r : Int32} (h : f_X0_dutiesOf F G h0 p0 I A = some r) : ZMi l yX0_dutiesOf cX0_dutiesOf 2 (some .int) { frames := 0, cells := 0, slots := 0, locals := 0 } D cy L K N F G [.ref h0, .int p0] I A r I A := by
  refine ZMi.of (nL := 2) hZ rfl rfl (by decide) (Nat.le_of_ble_eq_true rfl) (fun p e s m args below meth c C hr => ?_)
  unfold f_X0_dutiesOf at h
  refine zr_lv (lv' := [(0, .ref h0), (1, .int p0)]) C [0, 1] rfl ?_
  refine zr_iload_n C 1 rfl rfl dX0_dutiesOf_0 ?_
  refine zr_iconst (v := (-1)) C (by decide) dX0_dutiesOf_1 ?_
  refine zr_icmp_ne (tgt := 9) C (by decide) dX0_dutiesOf_2 (fun hc1 => ?_) (fun hc1 => ?_)
  · have h := zif_f hc1 h
    refine zr_aload_n C 0 rfl rfl dX0_dutiesOf_9 ?_
    refine zr_get (ci := 0) (k := 1) (v := .ref (F h0 1)) C k_h0 (by decide) rfl zinX0 (by decide) wd_60 rfl dX0_dutiesOf_10 ?_
    refine zr_iload_n C 1 rfl rfl dX0_dutiesOf_13 ?_
    obtain ⟨hc2, h⟩ := zck_e h
    refine zr_iald C (zt0 hZ k_h0 1 (by decide)).1 (zt0 hZ k_h0 1 (by decide)).2 hc2 dX0_dutiesOf_14 ?_
    obtain rfl := zso h
    exact zr_iret C hr dX0_dutiesOf_15
  · have h := zif_t hc1 h
    refine zr_iconst (v := 0) C (by decide) dX0_dutiesOf_5 ?_
    refine zr_goto (tgt := 15) C (by decide) dX0_dutiesOf_6 ?_
    obtain rfl := zso h
    exact zr_iret C hr dX0_dutiesOf_15

def g_X0_put_6 (F G : Nat → Nat → Nat) (v0 : Nat) (v1 : Int32) (v2 : Int32) (v3 : Nat) (v4 : Int32) (v5 : Int32) (I : zH) (A : zH) : Option ((Int32 × Int32) ⊕ (Int32 × Int32)) :=
  if 6 ≤ v5 then (
    some (.inr (v4, v5))
  ) else (
    zck (¬ (v5 < 0 ∨ 6 ≤ v5.toNatClampNeg)) <|
    if (I (G v3 v5.toNatClampNeg) 2) = 0 then (
      some (.inl (v4 ||| 0, v5 + 1))
    ) else (
      some (.inl (v4 ||| ((1 : Int32) <<< (v5 &&& 31)), v5 + 1))
    )
  )
def g_X0_put_73 (F G : Nat → Nat → Nat) (v0 : Nat) (v1 : Int32) (v2 : Int32) (v3 : Nat) (v4 : Int32) (v5 : Int32) (A : zH) (I : zH) : Option ((Int32 × zH) ⊕ (Int32 × zH)) :=
  if 6 ≤ v5 then (
    some (.inr (v5, A))
  ) else (
    zb (f_X5_hasBit F G v2 v5 I A) fun r2 =>
    if r2 = 0 then (
      some (.inl (v5 + 1, A))
    ) else (
      zck (¬ (v5 < 0 ∨ 6 ≤ v5.toNatClampNeg)) <|
      zck (¬ (v1 < 0 ∨ 16 ≤ v1.toNatClampNeg)) <|
      zck (¬ (v1 < 0 ∨ 16 ≤ v1.toNatClampNeg)) <|
      zlet (up2 A (F v0 1) v1.toNatClampNeg ((A (F v0 1) v1.toNatClampNeg) ||| (I (G v3 v5.toNatClampNeg) 0))) fun A9 =>
      zck (¬ (v1 < 0 ∨ 16 ≤ v1.toNatClampNeg)) <|
      zck (¬ (v1 < 0 ∨ 16 ≤ v1.toNatClampNeg)) <|
      zlet (up2 A9 (F v0 2) v1.toNatClampNeg ((A9 (F v0 2) v1.toNatClampNeg) ||| (I (G v3 v5.toNatClampNeg) 4))) fun A12 =>
      zck (¬ (v1 < 0 ∨ 16 ≤ v1.toNatClampNeg)) <|
      if (I (G v3 v5.toNatClampNeg) 2) = 0 then (
        zck (¬ (v1 < 0 ∨ 16 ≤ v1.toNatClampNeg)) <|
        zlet (up2 A12 (F v0 3) v1.toNatClampNeg ((A12 (F v0 3) v1.toNatClampNeg) ||| ((I (G v3 v5.toNatClampNeg) 4) &&& v4))) fun A16 =>
        some (.inl (v5 + 1, A16))
      ) else (
        zck (¬ (v1 < 0 ∨ 16 ≤ v1.toNatClampNeg)) <|
        zlet (up2 A12 (F v0 3) v1.toNatClampNeg ((A12 (F v0 3) v1.toNatClampNeg) ||| (I (G v3 v5.toNatClampNeg) 4))) fun A18 =>
        some (.inl (v5 + 1, A18))
      )
    )
  )
def f_X0_put (F G : Nat → Nat → Nat) (h0 : Nat) (p0 : Int32) (p1 : Int32) (r2 : Nat) (I A : zH) : Option (zH) :=
  zb2 (zIt (fun x => g_X0_put_6 F G h0 p0 p1 r2 x.1 x.2 I A) 2000 (0, 0)) fun i1 i2 =>
  zck (¬ (p0 < 0 ∨ 16 ≤ p0.toNatClampNeg)) <|
  zlet (up2 A (F h0 0) p0.toNatClampNeg p1) fun A4 =>
  zck (¬ (p0 < 0 ∨ 16 ≤ p0.toNatClampNeg)) <|
  zlet (up2 A4 (F h0 1) p0.toNatClampNeg 0) fun A6 =>
  zck (¬ (p0 < 0 ∨ 16 ≤ p0.toNatClampNeg)) <|
  zlet (up2 A6 (F h0 2) p0.toNatClampNeg 0) fun A8 =>
  zck (¬ (p0 < 0 ∨ 16 ≤ p0.toNatClampNeg)) <|
  zlet (up2 A8 (F h0 3) p0.toNatClampNeg 0) fun A10 =>
  zb2 (zIt (fun x => g_X0_put_73 F G h0 p0 p1 r2 i1 x.1 x.2 I ) 2000 (0, A10)) fun i11 A12 =>
  some A12
set_option maxHeartbeats 4000000 in
set_option maxRecDepth 100000 in
theorem wb_X0_put_6 (l : Launch) (D : va_G) (cy : Nat → ClassId) {L : List Nat} {K N : Nat → Nat} {F G : Nat → Nat → Nat} (hZ : ZL L K N F G) {p : Program} {e : Env} {R : Room} {s : State} {m : MethodId} {args : Array Value} {below : List Frame} {meth : Method} {c : Code} {cells slots : Nat} {Q : State → Prop} (C : ZC p s m args meth c cX0_put yX0_put.cls 7 D cy L K N F G) (hRf : 0 ≤ R.frames) (hRl : 0 ≤ R.locals) (hRc : cells ≤ R.cells ∧ slots ≤ R.slots)  (v0 : Nat) (v1 : Int32) (v2 : Int32) (v3 : Nat) (k0 : K v0 = 0) (k3 : K v3 = 7) (n3 : N v3 = 6) (I : zH) (A : zH) (v4 : Int32) (v5 : Int32) (o : (Int32 × Int32) ⊕ (Int32 × Int32)) (h : g_X0_put_6 F G v0 v1 v2 v3 v4 v5 I A = some o)
    (hg : ∀ y : Int32 × Int32, o = .inl y → ZW p l e R s m args below meth c 7 D cy L K N F G cells slots Q I A 6 [(0, .ref v0), (1, .int v1), (2, .int v2), (3, .ref v3), (4, .int y.1), (5, .int y.2)] [])
    (hx : ∀ y : Int32 × Int32, o = .inr y → ZW p l e R s m args below meth c 7 D cy L K N F G cells slots Q I A 42 [(0, .ref v0), (1, .int v1), (2, .int v2), (3, .ref v3), (4, .int y.1), (5, .int y.2)] []) : ZW p l e R s m args below meth c 7 D cy L K N F G cells slots Q I A 6 [(0, .ref v0), (1, .int v1), (2, .int v2), (3, .ref v3), (4, .int v4), (5, .int v5)] [] := by
  unfold g_X0_put_6 at h
  refine zr_iload C 5 rfl dX0_put_6 ?_
  refine zr_bipush (v := 6) C (by decide) dX0_put_8 ?_
  refine zr_icmp_ge (tgt := 42) C (by decide) dX0_put_10 (fun hc1 => ?_) (fun hc1 => ?_)
  · have h := zif_t hc1 h
    obtain rfl := zso h
    refine zr_lv (lv' := [(0, .ref v0), (1, .int v1), (2, .int v2), (3, .ref v3), (4, .int v4), (5, .int v5)]) C [0, 1, 2, 3, 4, 5] rfl ?_
    exact hx _ rfl
  · have h := zif_f hc1 h
    refine zr_iload C 4 rfl dX0_put_13 ?_
    refine zr_aload_n C 3 rfl rfl dX0_put_15 ?_
    refine zr_iload C 5 rfl dX0_put_16 ?_
    obtain ⟨hc2, h⟩ := zck_e h
    refine zr_ald7 C k3 n3 hc2 dX0_put_18 ?_
    refine zr_get (ci := 1) (k := 2) (v := .int (I (G v3 v5.toNatClampNeg) 2)) C (zt7 hZ k3 (z_ix n3 hc2)) (by decide) rfl zinX1 (by decide) wd_103 rfl dX0_put_19 ?_
    refine zr_if_eq (tgt := 32) C (by decide) dX0_put_22 (fun hc3 => ?_) (fun hc3 => ?_)
    · have h := zif_t hc3 h
      refine zr_iconst (v := 0) C (by decide) dX0_put_32 ?_
      refine zr_ior C dX0_put_33 ?_
      refine zr_istore (lv' := [(4, .int (v4 ||| 0)), (0, .ref v0), (1, .int v1), (2, .int v2), (3, .ref v3), (5, .int v5)]) C (by decide) rfl dX0_put_34 ?_
      refine zr_iinc (v := v5 + 1) (lv' := [(5, .int (v5 + 1)), (4, .int (v4 ||| 0)), (0, .ref v0), (1, .int v1), (2, .int v2), (3, .ref v3)]) C 5 rfl rfl (by decide) rfl dX0_put_36 ?_
      refine zr_goto (tgt := 6) C (by decide) dX0_put_39 ?_
      obtain rfl := zso h
      refine zr_lv (lv' := [(0, .ref v0), (1, .int v1), (2, .int v2), (3, .ref v3), (4, .int (v4 ||| 0)), (5, .int (v5 + 1))]) C [2, 3, 4, 5, 1, 0] rfl ?_
      exact hg _ rfl
    · have h := zif_f hc3 h
      refine zr_iconst (v := 1) C (by decide) dX0_put_25 ?_
      refine zr_iload C 5 rfl dX0_put_26 ?_
      refine zr_ishl C dX0_put_28 ?_
      refine zr_goto (tgt := 33) C (by decide) dX0_put_29 ?_
      refine zr_ior C dX0_put_33 ?_
      refine zr_istore (lv' := [(4, .int (v4 ||| ((1 : Int32) <<< (v5 &&& 31)))), (0, .ref v0), (1, .int v1), (2, .int v2), (3, .ref v3), (5, .int v5)]) C (by decide) rfl dX0_put_34 ?_
      refine zr_iinc (v := v5 + 1) (lv' := [(5, .int (v5 + 1)), (4, .int (v4 ||| ((1 : Int32) <<< (v5 &&& 31)))), (0, .ref v0), (1, .int v1), (2, .int v2), (3, .ref v3)]) C 5 rfl rfl (by decide) rfl dX0_put_36 ?_
      refine zr_goto (tgt := 6) C (by decide) dX0_put_39 ?_
      obtain rfl := zso h
      refine zr_lv (lv' := [(0, .ref v0), (1, .int v1), (2, .int v2), (3, .ref v3), (4, .int (v4 ||| ((1 : Int32) <<< (v5 &&& 31)))), (5, .int (v5 + 1))]) C [2, 3, 4, 5, 1, 0] rfl ?_
      exact hg _ rfl
set_option maxHeartbeats 4000000 in
set_option maxRecDepth 100000 in
theorem w_X0_put_6 (l : Launch) (D : va_G) (cy : Nat → ClassId) {L : List Nat} {K N : Nat → Nat} {F G : Nat → Nat → Nat} (hZ : ZL L K N F G) {p : Program} {e : Env} {R : Room} {s : State} {m : MethodId} {args : Array Value} {below : List Frame} {meth : Method} {c : Code} {cells slots : Nat} {Q : State → Prop} (C : ZC p s m args meth c cX0_put yX0_put.cls 7 D cy L K N F G) (hRf : 0 ≤ R.frames) (hRl : 0 ≤ R.locals) (hRc : cells ≤ R.cells ∧ slots ≤ R.slots)  (v0 : Nat) (v1 : Int32) (v2 : Int32) (v3 : Nat) (k0 : K v0 = 0) (k3 : K v3 = 7) (n3 : N v3 = 6) (I : zH) (A : zH) (n : Nat) (x : Int32 × Int32) (o : Int32 × Int32) (h : zIt (fun x => g_X0_put_6 F G v0 v1 v2 v3 x.1 x.2 I A) n x = some o)
    (hx : ZW p l e R s m args below meth c 7 D cy L K N F G cells slots Q I A 42 [(0, .ref v0), (1, .int v1), (2, .int v2), (3, .ref v3), (4, .int o.1), (5, .int o.2)] []) : ZW p l e R s m args below meth c 7 D cy L K N F G cells slots Q I A 6 [(0, .ref v0), (1, .int v1), (2, .int v2), (3, .ref v3), (4, .int x.1), (5, .int x.2)] [] := by
  induction n generalizing x with
  | zero => cases h
  | succ n ih =>
    unfold zIt at h
    cases hb : g_X0_put_6 F G v0 v1 v2 v3 x.1 x.2 I A with
    | none => rw [hb] at h; cases h
    | some q =>
      rw [hb] at h
      refine wb_X0_put_6 l D cy hZ C hRf hRl hRc v0 v1 v2 v3 k0 k3 n3 I A x.1 x.2 q hb (fun y hy => ?_) (fun y hy => ?_)
      · subst hy; exact ih y h
      · subst hy; cases h; exact hx
set_option maxHeartbeats 4000000 in
set_option maxRecDepth 100000 in
theorem wb_X0_put_73 (l : Launch) (D : va_G) (cy : Nat → ClassId) {L : List Nat} {K N : Nat → Nat} {F G : Nat → Nat → Nat} (hZ : ZL L K N F G) {p : Program} {e : Env} {R : Room} {s : State} {m : MethodId} {args : Array Value} {below : List Frame} {meth : Method} {c : Code} {cells slots : Nat} {Q : State → Prop} (C : ZC p s m args meth c cX0_put yX0_put.cls 7 D cy L K N F G) (hRf : 1 ≤ R.frames) (hRl : 21 ≤ R.locals) (hRc : cells ≤ R.cells ∧ slots ≤ R.slots)  (v0 : Nat) (v1 : Int32) (v2 : Int32) (v3 : Nat) (v4 : Int32) (k0 : K v0 = 0) (k3 : K v3 = 7) (n3 : N v3 = 6) (I : zH) (v5 : Int32) (A : zH) (o : (Int32 × zH) ⊕ (Int32 × zH)) (h : g_X0_put_73 F G v0 v1 v2 v3 v4 v5 A I = some o)
    (hg : ∀ y : Int32 × zH, o = .inl y → ZW p l e R s m args below meth c 7 D cy L K N F G cells slots Q I y.2 73 [(0, .ref v0), (1, .int v1), (2, .int v2), (3, .ref v3), (4, .int v4), (5, .int y.1)] [])
    (hx : ∀ y : Int32 × zH, o = .inr y → ZW p l e R s m args below meth c 7 D cy L K N F G cells slots Q I y.2 162 [(0, .ref v0), (1, .int v1), (2, .int v2), (3, .ref v3), (4, .int v4), (5, .int y.1)] []) : ZW p l e R s m args below meth c 7 D cy L K N F G cells slots Q I A 73 [(0, .ref v0), (1, .int v1), (2, .int v2), (3, .ref v3), (4, .int v4), (5, .int v5)] [] := by
  unfold g_X0_put_73 at h
  refine zr_iload C 5 rfl dX0_put_73 ?_
  refine zr_bipush (v := 6) C (by decide) dX0_put_75 ?_
  refine zr_icmp_ge (tgt := 162) C (by decide) dX0_put_77 (fun hc1 => ?_) (fun hc1 => ?_)
  · have h := zif_t hc1 h
    obtain rfl := zso h
    refine zr_lv (lv' := [(0, .ref v0), (1, .int v1), (2, .int v2), (3, .ref v3), (4, .int v4), (5, .int v5)]) C [0, 1, 2, 3, 4, 5] rfl ?_
    exact hx _ rfl
  · have h := zif_f hc1 h
    refine zr_iload_n C 2 rfl rfl dX0_put_80 ?_
    refine zr_iload C 5 rfl dX0_put_81 ?_
    obtain ⟨r2, h3, h⟩ := zb_e h
    refine zr_callNi (n := 2) (As := [.int v2, .int v5]) C (c_X5_hasBit l D cy hZ v2 v5 I A h3) C.nb.1 wd_323 wd_1 wd_324 (by decide +kernel) ⟨(Nat.le_trans (Nat.le_of_ble_eq_true rfl) hRf), (Nat.le_trans (Nat.le_of_ble_eq_true rfl) hRl)⟩ rfl rfl hRc rfl rfl (Nat.le_of_ble_eq_true rfl) dX0_put_83 ?_
    refine zr_if_eq (tgt := 156) C (by decide) dX0_put_86 (fun hc5 => ?_) (fun hc5 => ?_)
    · have h := zif_t hc5 h
      refine zr_iinc (v := v5 + 1) (lv' := [(5, .int (v5 + 1)), (0, .ref v0), (1, .int v1), (2, .int v2), (3, .ref v3), (4, .int v4)]) C 5 rfl rfl (by decide) rfl dX0_put_156 ?_
      refine zr_goto (tgt := 73) C (by decide) dX0_put_159 ?_
      obtain rfl := zso h
      refine zr_lv (lv' := [(0, .ref v0), (1, .int v1), (2, .int v2), (3, .ref v3), (4, .int v4), (5, .int (v5 + 1))]) C [1, 2, 3, 4, 5, 0] rfl ?_
      exact hg _ rfl
    · have h := zif_f hc5 h
      refine zr_aload_n C 3 rfl rfl dX0_put_89 ?_
      refine zr_iload C 5 rfl dX0_put_90 ?_
      obtain ⟨hc6, h⟩ := zck_e h
      refine zr_ald7 C k3 n3 hc6 dX0_put_92 ?_
      refine zr_astore (lv' := [(6, .ref (G v3 v5.toNatClampNeg)), (0, .ref v0), (1, .int v1), (2, .int v2), (3, .ref v3), (4, .int v4), (5, .int v5)]) C (by decide) rfl dX0_put_93 ?_
      refine zr_aload_n C 1 rfl rfl dX0_put_95 ?_
      refine zr_get (ci := 0) (k := 1) (v := .ref (F v0 1)) C k0 (by decide) rfl zinX0 (by decide) wd_60 rfl dX0_put_96 ?_
      refine zr_iload_n C 2 rfl rfl dX0_put_99 ?_
      refine zr_dup2 C rfl rfl dX0_put_100 ?_
      obtain ⟨hc7, h⟩ := zck_e h
      refine zr_iald C (zt0 hZ k0 1 (by decide)).1 (zt0 hZ k0 1 (by decide)).2 hc7 dX0_put_101 ?_
      refine zr_aload C 0 rfl dX0_put_102 ?_
      refine zr_get (ci := 1) (k := 0) (v := .int (I (G v3 v5.toNatClampNeg) 0)) C (zt7 hZ k3 (z_ix n3 hc6)) (by decide) rfl zinX1 (by decide) wd_98 rfl dX0_put_104 ?_
      refine zr_ior C dX0_put_107 ?_
      obtain ⟨hc8, h⟩ := zck_e h
      refine zr_iast C (zt0 hZ k0 1 (by decide)).1 (zt0 hZ k0 1 (by decide)).2 hc8 dX0_put_108 ?_
      obtain ⟨A9, eA9, h⟩ := zlet_e h
      rw [← eA9]
      refine zr_aload_n C 1 rfl rfl dX0_put_109 ?_
      refine zr_get (ci := 0) (k := 2) (v := .ref (F v0 2)) C k0 (by decide) rfl zinX0 (by decide) wd_61 rfl dX0_put_110 ?_
      refine zr_iload_n C 2 rfl rfl dX0_put_113 ?_
      refine zr_dup2 C rfl rfl dX0_put_114 ?_
      obtain ⟨hc10, h⟩ := zck_e h
      refine zr_iald C (zt0 hZ k0 2 (by decide)).1 (zt0 hZ k0 2 (by decide)).2 hc10 dX0_put_115 ?_
      refine zr_aload C 0 rfl dX0_put_116 ?_
      refine zr_get (ci := 1) (k := 4) (v := .int (I (G v3 v5.toNatClampNeg) 4)) C (zt7 hZ k3 (z_ix n3 hc6)) (by decide) rfl zinX1 (by decide) wd_108 rfl dX0_put_118 ?_
      refine zr_ior C dX0_put_121 ?_
      obtain ⟨hc11, h⟩ := zck_e h
      refine zr_iast C (zt0 hZ k0 2 (by decide)).1 (zt0 hZ k0 2 (by decide)).2 hc11 dX0_put_122 ?_
      obtain ⟨A12, eA12, h⟩ := zlet_e h
      rw [← eA12]
      refine zr_aload_n C 1 rfl rfl dX0_put_123 ?_
      refine zr_get (ci := 0) (k := 3) (v := .ref (F v0 3)) C k0 (by decide) rfl zinX0 (by decide) wd_62 rfl dX0_put_124 ?_
      refine zr_iload_n C 2 rfl rfl dX0_put_127 ?_
      refine zr_dup2 C rfl rfl dX0_put_128 ?_
      obtain ⟨hc13, h⟩ := zck_e h
      refine zr_iald C (zt0 hZ k0 3 (by decide)).1 (zt0 hZ k0 3 (by decide)).2 hc13 dX0_put_129 ?_
      refine zr_aload C 0 rfl dX0_put_130 ?_
      refine zr_get (ci := 1) (k := 2) (v := .int (I (G v3 v5.toNatClampNeg) 2)) C (zt7 hZ k3 (z_ix n3 hc6)) (by decide) rfl zinX1 (by decide) wd_103 rfl dX0_put_132 ?_
      refine zr_if_eq (tgt := 146) C (by decide) dX0_put_135 (fun hc14 => ?_) (fun hc14 => ?_)
      · have h := zif_t hc14 h
        refine zr_aload C 0 rfl dX0_put_146 ?_
        refine zr_get (ci := 1) (k := 4) (v := .int (I (G v3 v5.toNatClampNeg) 4)) C (zt7 hZ k3 (z_ix n3 hc6)) (by decide) rfl zinX1 (by decide) wd_108 rfl dX0_put_148 ?_
        refine zr_iload C 5 rfl dX0_put_151 ?_
        refine zr_iand C dX0_put_153 ?_
        refine zr_ior C dX0_put_154 ?_
        obtain ⟨hc15, h⟩ := zck_e h
        refine zr_iast C (zt0 hZ k0 3 (by decide)).1 (zt0 hZ k0 3 (by decide)).2 hc15 dX0_put_155 ?_
        obtain ⟨A16, eA16, h⟩ := zlet_e h
        rw [← eA16]
        refine zr_iinc (v := v5 + 1) (lv' := [(5, .int (v5 + 1)), (6, .ref (G v3 v5.toNatClampNeg)), (0, .ref v0), (1, .int v1), (2, .int v2), (3, .ref v3), (4, .int v4)]) C 6 rfl rfl (by decide) rfl dX0_put_156 ?_
        refine zr_goto (tgt := 73) C (by decide) dX0_put_159 ?_
        obtain rfl := zso h
        refine zr_lv (lv' := [(0, .ref v0), (1, .int v1), (2, .int v2), (3, .ref v3), (4, .int v4), (5, .int (v5 + 1))]) C [2, 3, 4, 5, 6, 0] rfl ?_
        exact hg _ rfl
      · have h := zif_f hc14 h
        refine zr_aload C 0 rfl dX0_put_138 ?_
        refine zr_get (ci := 1) (k := 4) (v := .int (I (G v3 v5.toNatClampNeg) 4)) C (zt7 hZ k3 (z_ix n3 hc6)) (by decide) rfl zinX1 (by decide) wd_108 rfl dX0_put_140 ?_
        refine zr_goto (tgt := 154) C (by decide) dX0_put_143 ?_
        refine zr_ior C dX0_put_154 ?_
        obtain ⟨hc17, h⟩ := zck_e h
        refine zr_iast C (zt0 hZ k0 3 (by decide)).1 (zt0 hZ k0 3 (by decide)).2 hc17 dX0_put_155 ?_
        obtain ⟨A18, eA18, h⟩ := zlet_e h
        rw [← eA18]
        refine zr_iinc (v := v5 + 1) (lv' := [(5, .int (v5 + 1)), (6, .ref (G v3 v5.toNatClampNeg)), (0, .ref v0), (1, .int v1), (2, .int v2), (3, .ref v3), (4, .int v4)]) C 6 rfl rfl (by decide) rfl dX0_put_156 ?_
        refine zr_goto (tgt := 73) C (by decide) dX0_put_159 ?_
        obtain rfl := zso h
        refine zr_lv (lv' := [(0, .ref v0), (1, .int v1), (2, .int v2), (3, .ref v3), (4, .int v4), (5, .int (v5 + 1))]) C [2, 3, 4, 5, 6, 0] rfl ?_
        exact hg _ rfl
set_option maxHeartbeats 4000000 in
set_option maxRecDepth 100000 in
theorem w_X0_put_73 (l : Launch) (D : va_G) (cy : Nat → ClassId) {L : List Nat} {K N : Nat → Nat} {F G : Nat → Nat → Nat} (hZ : ZL L K N F G) {p : Program} {e : Env} {R : Room} {s : State} {m : MethodId} {args : Array Value} {below : List Frame} {meth : Method} {c : Code} {cells slots : Nat} {Q : State → Prop} (C : ZC p s m args meth c cX0_put yX0_put.cls 7 D cy L K N F G) (hRf : 1 ≤ R.frames) (hRl : 21 ≤ R.locals) (hRc : cells ≤ R.cells ∧ slots ≤ R.slots)  (v0 : Nat) (v1 : Int32) (v2 : Int32) (v3 : Nat) (v4 : Int32) (k0 : K v0 = 0) (k3 : K v3 = 7) (n3 : N v3 = 6) (I : zH) (n : Nat) (x : Int32 × zH) (o : Int32 × zH) (h : zIt (fun x => g_X0_put_73 F G v0 v1 v2 v3 v4 x.1 x.2 I) n x = some o)
    (hx : ZW p l e R s m args below meth c 7 D cy L K N F G cells slots Q I o.2 162 [(0, .ref v0), (1, .int v1), (2, .int v2), (3, .ref v3), (4, .int v4), (5, .int o.1)] []) : ZW p l e R s m args below meth c 7 D cy L K N F G cells slots Q I x.2 73 [(0, .ref v0), (1, .int v1), (2, .int v2), (3, .ref v3), (4, .int v4), (5, .int x.1)] [] := by
  induction n generalizing x with
  | zero => cases h
  | succ n ih =>
    unfold zIt at h
    cases hb : g_X0_put_73 F G v0 v1 v2 v3 v4 x.1 x.2 I with
    | none => rw [hb] at h; cases h
    | some q =>
      rw [hb] at h
      refine wb_X0_put_73 l D cy hZ C hRf hRl hRc v0 v1 v2 v3 v4 k0 k3 n3 I x.1 x.2 q hb (fun y hy => ?_) (fun y hy => ?_)
      · subst hy; exact ih y h
      · subst hy; cases h; exact hx
set_option maxHeartbeats 4000000 in
set_option maxRecDepth 100000 in
theorem c_X0_put (l : Launch) (D : va_G) (cy : Nat → ClassId) {L : List Nat} {K N : Nat → Nat} {F G : Nat → Nat → Nat} (hZ : ZL L K N F G) (h0 : Nat) (p0 : Int32) (p1 : Int32) (r2 : Nat) (k_h0 : K h0 = 0) (k_r2 : K r2 = 7) (n_r2 : N r2 = 6) (I A : zH) {B' : zH} (h : f_X0_put F G h0 p0 p1 r2 I A = some B') : ZMv l yX0_put cX0_put 7 none { frames := 1, cells := 0, slots := 0, locals := 21 } D cy L K N F G [.ref h0, .int p0, .int p1, .ref r2] I A I B' := by
  refine ZMv.of (nL := 7) hZ rfl rfl (by decide) (Nat.le_of_ble_eq_true rfl) (fun p e s m args below meth c C hr => ?_)
  unfold f_X0_put at h
  refine zr_lv (lv' := [(0, .ref h0), (1, .int p0), (2, .int p1), (3, .ref r2)]) C [0, 1, 2, 3] rfl ?_
  refine zr_iconst (v := 0) C (by decide) dX0_put_0 ?_
  refine zr_istore (lv' := [(4, .int 0), (0, .ref h0), (1, .int p0), (2, .int p1), (3, .ref r2)]) C (by decide) rfl dX0_put_1 ?_
  refine zr_iconst (v := 0) C (by decide) dX0_put_3 ?_
  refine zr_istore (lv' := [(5, .int 0), (4, .int 0), (0, .ref h0), (1, .int p0), (2, .int p1), (3, .ref r2)]) C (by decide) rfl dX0_put_4 ?_
  obtain ⟨i1, i2, h14, h⟩ := zb2_e h
  refine zr_lv (lv' := [(0, .ref h0), (1, .int p0), (2, .int p1), (3, .ref r2), (4, .int 0), (5, .int 0)]) C [2, 3, 4, 5, 1, 0] rfl ?_
  refine w_X0_put_6 l D cy hZ C (Nat.le_of_ble_eq_true rfl) (Nat.le_of_ble_eq_true rfl) ⟨Nat.le_refl _, Nat.le_refl _⟩ h0 p0 p1 r2 k_h0 k_r2 n_r2 I A 2000 (0, 0) (i1, i2) h14 ?_
  refine zr_aload_n C 0 rfl rfl dX0_put_42 ?_
  refine zr_get (ci := 0) (k := 0) (v := .ref (F h0 0)) C k_h0 (by decide) rfl zinX0 (by decide) wd_59 rfl dX0_put_43 ?_
  refine zr_iload_n C 1 rfl rfl dX0_put_46 ?_
  refine zr_iload_n C 2 rfl rfl dX0_put_47 ?_
  obtain ⟨hc3, h⟩ := zck_e h
  refine zr_iast C (zt0 hZ k_h0 0 (by decide)).1 (zt0 hZ k_h0 0 (by decide)).2 hc3 dX0_put_48 ?_
  obtain ⟨A4, eA4, h⟩ := zlet_e h
  rw [← eA4]
  refine zr_aload_n C 0 rfl rfl dX0_put_49 ?_
  refine zr_get (ci := 0) (k := 1) (v := .ref (F h0 1)) C k_h0 (by decide) rfl zinX0 (by decide) wd_60 rfl dX0_put_50 ?_
  refine zr_iload_n C 1 rfl rfl dX0_put_53 ?_
  refine zr_iconst (v := 0) C (by decide) dX0_put_54 ?_
  obtain ⟨hc5, h⟩ := zck_e h
  refine zr_iast C (zt0 hZ k_h0 1 (by decide)).1 (zt0 hZ k_h0 1 (by decide)).2 hc5 dX0_put_55 ?_
  obtain ⟨A6, eA6, h⟩ := zlet_e h
  rw [← eA6]
  refine zr_aload_n C 0 rfl rfl dX0_put_56 ?_
  refine zr_get (ci := 0) (k := 2) (v := .ref (F h0 2)) C k_h0 (by decide) rfl zinX0 (by decide) wd_61 rfl dX0_put_57 ?_
  refine zr_iload_n C 1 rfl rfl dX0_put_60 ?_
  refine zr_iconst (v := 0) C (by decide) dX0_put_61 ?_
  obtain ⟨hc7, h⟩ := zck_e h
  refine zr_iast C (zt0 hZ k_h0 2 (by decide)).1 (zt0 hZ k_h0 2 (by decide)).2 hc7 dX0_put_62 ?_
  obtain ⟨A8, eA8, h⟩ := zlet_e h
  rw [← eA8]
  refine zr_aload_n C 0 rfl rfl dX0_put_63 ?_
  refine zr_get (ci := 0) (k := 3) (v := .ref (F h0 3)) C k_h0 (by decide) rfl zinX0 (by decide) wd_62 rfl dX0_put_64 ?_
  refine zr_iload_n C 1 rfl rfl dX0_put_67 ?_
  refine zr_iconst (v := 0) C (by decide) dX0_put_68 ?_
  obtain ⟨hc9, h⟩ := zck_e h
  refine zr_iast C (zt0 hZ k_h0 3 (by decide)).1 (zt0 hZ k_h0 3 (by decide)).2 hc9 dX0_put_69 ?_
  obtain ⟨A10, eA10, h⟩ := zlet_e h
  rw [← eA10]
  refine zr_iconst (v := 0) C (by decide) dX0_put_70 ?_
  refine zr_istore (lv' := [(5, .int 0), (0, .ref h0), (1, .int p0), (2, .int p1), (3, .ref r2), (4, .int i1)]) C (by decide) rfl dX0_put_71 ?_
  obtain ⟨i11, A12, h13, h⟩ := zb2_e h
  refine zr_lv (lv' := [(0, .ref h0), (1, .int p0), (2, .int p1), (3, .ref r2), (4, .int i1), (5, .int 0)]) C [1, 2, 3, 4, 5, 0] rfl ?_
  refine w_X0_put_73 l D cy hZ C (Nat.le_of_ble_eq_true rfl) (Nat.le_of_ble_eq_true rfl) ⟨Nat.le_refl _, Nat.le_refl _⟩ h0 p0 p1 r2 i1 k_h0 k_r2 n_r2 I  2000 (0, A10) (i11, A12) h13 ?_
  obtain rfl := zso h
  exact zr_vret C hr dX0_put_162

def f_X1_isRivalOf (F G : Nat → Nat → Nat) (h0 : Nat) (r0 : Nat) (I A : zH) : Option (Int32) :=
  if ((I h0 0) &&& (I r0 1)) = 0 then (
    if ((I r0 0) &&& (I h0 1)) = 0 then (
      some 0
    ) else (
      some 1
    )
  ) else (
    some 1
  )
set_option maxHeartbeats 4000000 in
set_option maxRecDepth 100000 in
theorem c_X1_isRivalOf (l : Launch) (D : va_G) (cy : Nat → ClassId) {L : List Nat} {K N : Nat → Nat} {F G : Nat → Nat → Nat} (hZ : ZL L K N F G) (h0 : Nat) (r0 : Nat) (k_h0 : K h0 = 1) (k_r0 : K r0 = 1) (I A : zH) {r : Int32} (h : f_X1_isRivalOf F G h0 r0 I A = some r) : ZMi l yX1_isRivalOf cX1_isRivalOf 2 (some .boolean) { frames := 0, cells := 0, slots := 0, locals := 0 } D cy L K N F G [.ref h0, .ref r0] I A r I A := by
  refine ZMi.of (nL := 2) hZ rfl rfl (by decide) (Nat.le_of_ble_eq_true rfl) (fun p e s m args below meth c C hr => ?_)
  unfold f_X1_isRivalOf at h
  refine zr_lv (lv' := [(0, .ref h0), (1, .ref r0)]) C [0, 1] rfl ?_
  refine zr_aload_n C 0 rfl rfl dX1_isRivalOf_0 ?_
  refine zr_get (ci := 1) (k := 0) (v := .int (I h0 0)) C k_h0 (by decide) rfl zinX1 (by decide) wd_97 rfl dX1_isRivalOf_1 ?_
  refine zr_aload_n C 1 rfl rfl dX1_isRivalOf_4 ?_
  refine zr_get (ci := 1) (k := 1) (v := .int (I r0 1)) C k_r0 (by decide) rfl zinX1 (by decide) wd_100 rfl dX1_isRivalOf_5 ?_
  refine zr_iand C dX1_isRivalOf_8 ?_
  refine zr_if_ne (tgt := 24) C (by decide) dX1_isRivalOf_9 (fun hc1 => ?_) (fun hc1 => ?_)
  · have h := zif_f hc1 h
    refine zr_iconst (v := 1) C (by decide) dX1_isRivalOf_24 ?_
    refine zr_goto (tgt := 29) C (by decide) dX1_isRivalOf_25 ?_
    obtain rfl := zso h
    exact zr_zret C hr rfl dX1_isRivalOf_29
  · have h := zif_t hc1 h
    refine zr_aload_n C 1 rfl rfl dX1_isRivalOf_12 ?_
    refine zr_get (ci := 1) (k := 0) (v := .int (I r0 0)) C k_r0 (by decide) rfl zinX1 (by decide) wd_97 rfl dX1_isRivalOf_13 ?_
    refine zr_aload_n C 0 rfl rfl dX1_isRivalOf_16 ?_
    refine zr_get (ci := 1) (k := 1) (v := .int (I h0 1)) C k_h0 (by decide) rfl zinX1 (by decide) wd_100 rfl dX1_isRivalOf_17 ?_
    refine zr_iand C dX1_isRivalOf_20 ?_
    refine zr_if_eq (tgt := 28) C (by decide) dX1_isRivalOf_21 (fun hc2 => ?_) (fun hc2 => ?_)
    · have h := zif_t hc2 h
      refine zr_iconst (v := 0) C (by decide) dX1_isRivalOf_28 ?_
      obtain rfl := zso h
      exact zr_zret C hr rfl dX1_isRivalOf_29
    · have h := zif_f hc2 h
      refine zr_iconst (v := 1) C (by decide) dX1_isRivalOf_24 ?_
      refine zr_goto (tgt := 29) C (by decide) dX1_isRivalOf_25 ?_
      obtain rfl := zso h
      exact zr_zret C hr rfl dX1_isRivalOf_29
end
section
def g_X3_usesOf_4 (F G : Nat → Nat → Nat) (v0 : Nat) (v1 : Int32) (v2 : Int32) (v3 : Int32) (I : zH) (A : zH) : Option ((Int32 × Int32) ⊕ (Int32 × Int32)) :=
  if 10 ≤ v3 then (
    some (.inr (v2, v3))
  ) else (
    zb (f_X5_hasBit F G (I v0 4) v3 I A) fun r2 =>
    if r2 = 0 then (
      some (.inl (v2, v3 + 1))
    ) else (
      zck (¬ (v3 < 0 ∨ 10 ≤ v3.toNatClampNeg)) <|
      if (A (F v0 2) v3.toNatClampNeg) = v1 then (
        some (.inl (v2 + 1, v3 + 1))
      ) else (
        some (.inl (v2, v3 + 1))
      )
    )
  )
def f_X3_usesOf (F G : Nat → Nat → Nat) (h0 : Nat) (p0 : Int32) (I A : zH) : Option (Int32) :=
  zb2 (zIt (fun x => g_X3_usesOf_4 F G h0 p0 x.1 x.2 I A) 2000 (0, 0)) fun i1 i2 =>
  some i1
set_option maxHeartbeats 4000000 in
set_option maxRecDepth 100000 in
theorem wb_X3_usesOf_4 (l : Launch) (D : va_G) (cy : Nat → ClassId) {L : List Nat} {K N : Nat → Nat} {F G : Nat → Nat → Nat} (hZ : ZL L K N F G) {p : Program} {e : Env} {R : Room} {s : State} {m : MethodId} {args : Array Value} {below : List Frame} {meth : Method} {c : Code} {cells slots : Nat} {Q : State → Prop} (C : ZC p s m args meth c cX3_usesOf yX3_usesOf.cls 4 D cy L K N F G) (hRf : 1 ≤ R.frames) (hRl : 21 ≤ R.locals) (hRc : cells ≤ R.cells ∧ slots ≤ R.slots)  (v0 : Nat) (v1 : Int32) (k0 : K v0 = 3) (I : zH) (A : zH) (v2 : Int32) (v3 : Int32) (o : (Int32 × Int32) ⊕ (Int32 × Int32)) (h : g_X3_usesOf_4 F G v0 v1 v2 v3 I A = some o)
    (hg : ∀ y : Int32 × Int32, o = .inl y → ZW p l e R s m args below meth c 4 D cy L K N F G cells slots Q I A 4 [(0, .ref v0), (1, .int v1), (2, .int y.1), (3, .int y.2)] [])
    (hx : ∀ y : Int32 × Int32, o = .inr y → ZW p l e R s m args below meth c 4 D cy L K N F G cells slots Q I A 40 [(0, .ref v0), (1, .int v1), (2, .int y.1), (3, .int y.2)] []) : ZW p l e R s m args below meth c 4 D cy L K N F G cells slots Q I A 4 [(0, .ref v0), (1, .int v1), (2, .int v2), (3, .int v3)] [] := by
  unfold g_X3_usesOf_4 at h
  refine zr_iload_n C 3 rfl rfl dX3_usesOf_4 ?_
  refine zr_bipush (v := 10) C (by decide) dX3_usesOf_5 ?_
  refine zr_icmp_ge (tgt := 40) C (by decide) dX3_usesOf_7 (fun hc1 => ?_) (fun hc1 => ?_)
  · have h := zif_t hc1 h
    obtain rfl := zso h
    refine zr_lv (lv' := [(0, .ref v0), (1, .int v1), (2, .int v2), (3, .int v3)]) C [0, 1, 2, 3] rfl ?_
    exact hx _ rfl
  · have h := zif_f hc1 h
    refine zr_aload_n C 0 rfl rfl dX3_usesOf_10 ?_
    refine zr_get (ci := 3) (k := 4) (v := .int (I v0 4)) C k0 (by decide) rfl zinX3 (by decide) wd_133 rfl dX3_usesOf_11 ?_
    refine zr_iload_n C 3 rfl rfl dX3_usesOf_14 ?_
    obtain ⟨r2, h3, h⟩ := zb_e h
    refine zr_callNi (n := 2) (As := [.int (I v0 4), .int v3]) C (c_X5_hasBit l D cy hZ (I v0 4) v3 I A h3) C.nb.2 wd_323 wd_1 wd_324 (by decide +kernel) ⟨(Nat.le_trans (Nat.le_of_ble_eq_true rfl) hRf), (Nat.le_trans (Nat.le_of_ble_eq_true rfl) hRl)⟩ rfl rfl hRc rfl rfl (Nat.le_of_ble_eq_true rfl) dX3_usesOf_15 ?_
    refine zr_if_eq (tgt := 34) C (by decide) dX3_usesOf_18 (fun hc5 => ?_) (fun hc5 => ?_)
    · have h := zif_t hc5 h
      refine zr_iinc (v := v3 + 1) (lv' := [(3, .int (v3 + 1)), (0, .ref v0), (1, .int v1), (2, .int v2)]) C 3 rfl rfl (by decide) rfl dX3_usesOf_34 ?_
      refine zr_goto (tgt := 4) C (by decide) dX3_usesOf_37 ?_
      obtain rfl := zso h
      refine zr_lv (lv' := [(0, .ref v0), (1, .int v1), (2, .int v2), (3, .int (v3 + 1))]) C [1, 2, 3, 0] rfl ?_
      exact hg _ rfl
    · have h := zif_f hc5 h
      refine zr_aload_n C 0 rfl rfl dX3_usesOf_21 ?_
      refine zr_get (ci := 3) (k := 2) (v := .ref (F v0 2)) C k0 (by decide) rfl zinX3 (by decide) wd_130 rfl dX3_usesOf_22 ?_
      refine zr_iload_n C 3 rfl rfl dX3_usesOf_25 ?_
      obtain ⟨hc6, h⟩ := zck_e h
      refine zr_iald C (zt3 hZ k0 2 (by decide)).1 (zt3 hZ k0 2 (by decide)).2 hc6 dX3_usesOf_26 ?_
      refine zr_iload_n C 1 rfl rfl dX3_usesOf_27 ?_
      refine zr_icmp_ne (tgt := 34) C (by decide) dX3_usesOf_28 (fun hc7 => ?_) (fun hc7 => ?_)
      · have h := zif_f hc7 h
        refine zr_iinc (v := v3 + 1) (lv' := [(3, .int (v3 + 1)), (0, .ref v0), (1, .int v1), (2, .int v2)]) C 3 rfl rfl (by decide) rfl dX3_usesOf_34 ?_
        refine zr_goto (tgt := 4) C (by decide) dX3_usesOf_37 ?_
        obtain rfl := zso h
        refine zr_lv (lv' := [(0, .ref v0), (1, .int v1), (2, .int v2), (3, .int (v3 + 1))]) C [1, 2, 3, 0] rfl ?_
        exact hg _ rfl
      · have h := zif_t hc7 h
        refine zr_iinc (v := v2 + 1) (lv' := [(2, .int (v2 + 1)), (0, .ref v0), (1, .int v1), (3, .int v3)]) C 2 rfl rfl (by decide) rfl dX3_usesOf_31 ?_
        refine zr_iinc (v := v3 + 1) (lv' := [(3, .int (v3 + 1)), (2, .int (v2 + 1)), (0, .ref v0), (1, .int v1)]) C 3 rfl rfl (by decide) rfl dX3_usesOf_34 ?_
        refine zr_goto (tgt := 4) C (by decide) dX3_usesOf_37 ?_
        obtain rfl := zso h
        refine zr_lv (lv' := [(0, .ref v0), (1, .int v1), (2, .int (v2 + 1)), (3, .int (v3 + 1))]) C [2, 3, 1, 0] rfl ?_
        exact hg _ rfl
set_option maxHeartbeats 4000000 in
set_option maxRecDepth 100000 in
theorem w_X3_usesOf_4 (l : Launch) (D : va_G) (cy : Nat → ClassId) {L : List Nat} {K N : Nat → Nat} {F G : Nat → Nat → Nat} (hZ : ZL L K N F G) {p : Program} {e : Env} {R : Room} {s : State} {m : MethodId} {args : Array Value} {below : List Frame} {meth : Method} {c : Code} {cells slots : Nat} {Q : State → Prop} (C : ZC p s m args meth c cX3_usesOf yX3_usesOf.cls 4 D cy L K N F G) (hRf : 1 ≤ R.frames) (hRl : 21 ≤ R.locals) (hRc : cells ≤ R.cells ∧ slots ≤ R.slots)  (v0 : Nat) (v1 : Int32) (k0 : K v0 = 3) (I : zH) (A : zH) (n : Nat) (x : Int32 × Int32) (o : Int32 × Int32) (h : zIt (fun x => g_X3_usesOf_4 F G v0 v1 x.1 x.2 I A) n x = some o)
    (hx : ZW p l e R s m args below meth c 4 D cy L K N F G cells slots Q I A 40 [(0, .ref v0), (1, .int v1), (2, .int o.1), (3, .int o.2)] []) : ZW p l e R s m args below meth c 4 D cy L K N F G cells slots Q I A 4 [(0, .ref v0), (1, .int v1), (2, .int x.1), (3, .int x.2)] [] := by
  induction n generalizing x with
  | zero => cases h
  | succ n ih =>
    unfold zIt at h
    cases hb : g_X3_usesOf_4 F G v0 v1 x.1 x.2 I A with
    | none => rw [hb] at h; cases h
    | some q =>
      rw [hb] at h
      refine wb_X3_usesOf_4 l D cy hZ C hRf hRl hRc v0 v1 k0 I A x.1 x.2 q hb (fun y hy => ?_) (fun y hy => ?_)
      · subst hy; exact ih y h
      · subst hy; cases h; exact hx
set_option maxHeartbeats 4000000 in
set_option maxRecDepth 100000 in
theorem c_X3_usesOf (l : Launch) (D : va_G) (cy : Nat → ClassId) {L : List Nat} {K N : Nat → Nat} {F G : Nat → Nat → Nat} (hZ : ZL L K N F G) (h0 : Nat) (p0 : Int32) (k_h0 : K h0 = 3) (I A : zH) {r : Int32} (h : f_X3_usesOf F G h0 p0 I A = some r) : ZMi l yX3_usesOf cX3_usesOf 4 (some .int) { frames := 1, cells := 0, slots := 0, locals := 21 } D cy L K N F G [.ref h0, .int p0] I A r I A := by
  refine ZMi.of (nL := 4) hZ rfl rfl (by decide) (Nat.le_of_ble_eq_true rfl) (fun p e s m args below meth c C hr => ?_)
  unfold f_X3_usesOf at h
  refine zr_lv (lv' := [(0, .ref h0), (1, .int p0)]) C [0, 1] rfl ?_
  refine zr_iconst (v := 0) C (by decide) dX3_usesOf_0 ?_
  refine zr_istore_n (lv' := [(2, .int 0), (0, .ref h0), (1, .int p0)]) C rfl (by decide) rfl dX3_usesOf_1 ?_
  refine zr_iconst (v := 0) C (by decide) dX3_usesOf_2 ?_
  refine zr_istore_n (lv' := [(3, .int 0), (2, .int 0), (0, .ref h0), (1, .int p0)]) C rfl (by decide) rfl dX3_usesOf_3 ?_
  obtain ⟨i1, i2, h3, h⟩ := zb2_e h
  refine zr_lv (lv' := [(0, .ref h0), (1, .int p0), (2, .int 0), (3, .int 0)]) C [2, 3, 1, 0] rfl ?_
  refine w_X3_usesOf_4 l D cy hZ C (Nat.le_of_ble_eq_true rfl) (Nat.le_of_ble_eq_true rfl) ⟨Nat.le_refl _, Nat.le_refl _⟩ h0 p0 k_h0 I A 2000 (0, 0) (i1, i2) h3 ?_
  refine zr_iload_n C 2 rfl rfl dX3_usesOf_40 ?_
  obtain rfl := zso h
  exact zr_iret C hr dX3_usesOf_41

def f_X3_isFar (F G : Nat → Nat → Nat) (h0 : Nat) (p0 : Int32) (p1 : Int32) (I A : zH) : Option (Int32) :=
  if p0 = p1 then (
    some 0
  ) else (
    zck (¬ (p0 < 0 ∨ 10 ≤ p0.toNatClampNeg)) <|
    zck (¬ (p1 < 0 ∨ 10 ≤ p1.toNatClampNeg)) <|
    if ((((A (F h0 1) p0.toNatClampNeg) >>> (p1 &&& 31)) ||| ((A (F h0 1) p1.toNatClampNeg) >>> (p0 &&& 31))) &&& 1) = 0 then (
      some 1
    ) else (
      some 0
    )
  )
set_option maxHeartbeats 4000000 in
set_option maxRecDepth 100000 in
theorem c_X3_isFar (l : Launch) (D : va_G) (cy : Nat → ClassId) {L : List Nat} {K N : Nat → Nat} {F G : Nat → Nat → Nat} (hZ : ZL L K N F G) (h0 : Nat) (p0 : Int32) (p1 : Int32) (k_h0 : K h0 = 3) (I A : zH) {r : Int32} (h : f_X3_isFar F G h0 p0 p1 I A = some r) : ZMi l yX3_isFar cX3_isFar 3 (some .boolean) { frames := 0, cells := 0, slots := 0, locals := 0 } D cy L K N F G [.ref h0, .int p0, .int p1] I A r I A := by
  refine ZMi.of (nL := 3) hZ rfl rfl (by decide) (Nat.le_of_ble_eq_true rfl) (fun p e s m args below meth c C hr => ?_)
  unfold f_X3_isFar at h
  refine zr_lv (lv' := [(0, .ref h0), (1, .int p0), (2, .int p1)]) C [0, 1, 2] rfl ?_
  refine zr_iload_n C 1 rfl rfl dX3_isFar_0 ?_
  refine zr_iload_n C 2 rfl rfl dX3_isFar_1 ?_
  refine zr_icmp_eq (tgt := 31) C (by decide) dX3_isFar_2 (fun hc1 => ?_) (fun hc1 => ?_)
  · have h := zif_t hc1 h
    refine zr_iconst (v := 0) C (by decide) dX3_isFar_31 ?_
    obtain rfl := zso h
    exact zr_zret C hr rfl dX3_isFar_32
  · have h := zif_f hc1 h
    refine zr_aload_n C 0 rfl rfl dX3_isFar_5 ?_
    refine zr_get (ci := 3) (k := 1) (v := .ref (F h0 1)) C k_h0 (by decide) rfl zinX3 (by decide) wd_128 rfl dX3_isFar_6 ?_
    refine zr_iload_n C 1 rfl rfl dX3_isFar_9 ?_
    obtain ⟨hc2, h⟩ := zck_e h
    refine zr_iald C (zt3 hZ k_h0 1 (by decide)).1 (zt3 hZ k_h0 1 (by decide)).2 hc2 dX3_isFar_10 ?_
    refine zr_iload_n C 2 rfl rfl dX3_isFar_11 ?_
    refine zr_ishr C dX3_isFar_12 ?_
    refine zr_aload_n C 0 rfl rfl dX3_isFar_13 ?_
    refine zr_get (ci := 3) (k := 1) (v := .ref (F h0 1)) C k_h0 (by decide) rfl zinX3 (by decide) wd_128 rfl dX3_isFar_14 ?_
    refine zr_iload_n C 2 rfl rfl dX3_isFar_17 ?_
    obtain ⟨hc3, h⟩ := zck_e h
    refine zr_iald C (zt3 hZ k_h0 1 (by decide)).1 (zt3 hZ k_h0 1 (by decide)).2 hc3 dX3_isFar_18 ?_
    refine zr_iload_n C 1 rfl rfl dX3_isFar_19 ?_
    refine zr_ishr C dX3_isFar_20 ?_
    refine zr_ior C dX3_isFar_21 ?_
    refine zr_iconst (v := 1) C (by decide) dX3_isFar_22 ?_
    refine zr_iand C dX3_isFar_23 ?_
    refine zr_if_ne (tgt := 31) C (by decide) dX3_isFar_24 (fun hc4 => ?_) (fun hc4 => ?_)
    · have h := zif_f hc4 h
      refine zr_iconst (v := 0) C (by decide) dX3_isFar_31 ?_
      obtain rfl := zso h
      exact zr_zret C hr rfl dX3_isFar_32
    · have h := zif_t hc4 h
      refine zr_iconst (v := 1) C (by decide) dX3_isFar_27 ?_
      refine zr_goto (tgt := 32) C (by decide) dX3_isFar_28 ?_
      obtain rfl := zso h
      exact zr_zret C hr rfl dX3_isFar_32

def g_X3_clashesOf_6 (F G : Nat → Nat → Nat) (v0 : Nat) (v1 : Int32) (v2 : Int32) (v3 : Nat) (v4 : Int32) (v5 : Int32) (I : zH) (A : zH) : Option ((Int32 × Int32) ⊕ (Int32 × Int32)) :=
  if 10 ≤ v5 then (
    some (.inr (v4, v5))
  ) else (
    zb (f_X5_hasBit F G (I v0 4) v5 I A) fun r2 =>
    if r2 = 0 then (
      some (.inl (v4, v5 + 1))
    ) else (
      if v5 = v1 then (
        zb (f_X3_isFar F G v0 v1 v5 I A) fun r15 =>
        zb (f_X0_isClash F G v3 v2 v2 r15 I A) fun r18 =>
        if r18 = 0 then (
          some (.inl (v4, v5 + 1))
        ) else (
          some (.inl (v4 ||| ((1 : Int32) <<< (v5 &&& 31)), v5 + 1))
        )
      ) else (
        zck (¬ (v5 < 0 ∨ 10 ≤ v5.toNatClampNeg)) <|
        zb (f_X3_isFar F G v0 v1 v5 I A) fun r8 =>
        zb (f_X0_isClash F G v3 v2 (A (F v0 2) v5.toNatClampNeg) r8 I A) fun r11 =>
        if r11 = 0 then (
          some (.inl (v4, v5 + 1))
        ) else (
          some (.inl (v4 ||| ((1 : Int32) <<< (v5 &&& 31)), v5 + 1))
        )
      )
    )
  )
def f_X3_clashesOf (F G : Nat → Nat → Nat) (h0 : Nat) (p0 : Int32) (p1 : Int32) (r2 : Nat) (I A : zH) : Option (Int32) :=
  zb2 (zIt (fun x => g_X3_clashesOf_6 F G h0 p0 p1 r2 x.1 x.2 I A) 2000 (0, 0)) fun i1 i2 =>
  some i1
set_option maxHeartbeats 4000000 in
set_option maxRecDepth 100000 in
theorem wb_X3_clashesOf_6 (l : Launch) (D : va_G) (cy : Nat → ClassId) {L : List Nat} {K N : Nat → Nat} {F G : Nat → Nat → Nat} (hZ : ZL L K N F G) {p : Program} {e : Env} {R : Room} {s : State} {m : MethodId} {args : Array Value} {below : List Frame} {meth : Method} {c : Code} {cells slots : Nat} {Q : State → Prop} (C : ZC p s m args meth c cX3_clashesOf yX3_clashesOf.cls 7 D cy L K N F G) (hRf : 1 ≤ R.frames) (hRl : 24 ≤ R.locals) (hRc : cells ≤ R.cells ∧ slots ≤ R.slots)  (v0 : Nat) (v1 : Int32) (v2 : Int32) (v3 : Nat) (k0 : K v0 = 3) (k3 : K v3 = 0) (I : zH) (A : zH) (v4 : Int32) (v5 : Int32) (o : (Int32 × Int32) ⊕ (Int32 × Int32)) (h : g_X3_clashesOf_6 F G v0 v1 v2 v3 v4 v5 I A = some o)
    (hg : ∀ y : Int32 × Int32, o = .inl y → ZW p l e R s m args below meth c 7 D cy L K N F G cells slots Q I A 6 [(0, .ref v0), (1, .int v1), (2, .int v2), (3, .ref v3), (4, .int y.1), (5, .int y.2)] [])
    (hx : ∀ y : Int32 × Int32, o = .inr y → ZW p l e R s m args below meth c 7 D cy L K N F G cells slots Q I A 76 [(0, .ref v0), (1, .int v1), (2, .int v2), (3, .ref v3), (4, .int y.1), (5, .int y.2)] []) : ZW p l e R s m args below meth c 7 D cy L K N F G cells slots Q I A 6 [(0, .ref v0), (1, .int v1), (2, .int v2), (3, .ref v3), (4, .int v4), (5, .int v5)] [] := by
  unfold g_X3_clashesOf_6 at h
  refine zr_iload C 5 rfl dX3_clashesOf_6 ?_
  refine zr_bipush (v := 10) C (by decide) dX3_clashesOf_8 ?_
  refine zr_icmp_ge (tgt := 76) C (by decide) dX3_clashesOf_10 (fun hc1 => ?_) (fun hc1 => ?_)
  · have h := zif_t hc1 h
    obtain rfl := zso h
    refine zr_lv (lv' := [(0, .ref v0), (1, .int v1), (2, .int v2), (3, .ref v3), (4, .int v4), (5, .int v5)]) C [0, 1, 2, 3, 4, 5] rfl ?_
    exact hx _ rfl
  · have h := zif_f hc1 h
    refine zr_aload_n C 0 rfl rfl dX3_clashesOf_13 ?_
    refine zr_get (ci := 3) (k := 4) (v := .int (I v0 4)) C k0 (by decide) rfl zinX3 (by decide) wd_133 rfl dX3_clashesOf_14 ?_
    refine zr_iload C 5 rfl dX3_clashesOf_17 ?_
    obtain ⟨r2, h3, h⟩ := zb_e h
    refine zr_callNi (n := 2) (As := [.int (I v0 4), .int v5]) C (c_X5_hasBit l D cy hZ (I v0 4) v5 I A h3) C.nb.2 wd_323 wd_1 wd_324 (by decide +kernel) ⟨(Nat.le_trans (Nat.le_of_ble_eq_true rfl) hRf), (Nat.le_trans (Nat.le_of_ble_eq_true rfl) hRl)⟩ rfl rfl hRc rfl rfl (Nat.le_of_ble_eq_true rfl) dX3_clashesOf_19 ?_
    refine zr_if_eq (tgt := 70) C (by decide) dX3_clashesOf_22 (fun hc5 => ?_) (fun hc5 => ?_)
    · have h := zif_t hc5 h
      refine zr_iinc (v := v5 + 1) (lv' := [(5, .int (v5 + 1)), (0, .ref v0), (1, .int v1), (2, .int v2), (3, .ref v3), (4, .int v4)]) C 5 rfl rfl (by decide) rfl dX3_clashesOf_70 ?_
      refine zr_goto (tgt := 6) C (by decide) dX3_clashesOf_73 ?_
      obtain rfl := zso h
      refine zr_lv (lv' := [(0, .ref v0), (1, .int v1), (2, .int v2), (3, .ref v3), (4, .int v4), (5, .int (v5 + 1))]) C [1, 2, 3, 4, 5, 0] rfl ?_
      exact hg _ rfl
    · have h := zif_f hc5 h
      refine zr_iload C 5 rfl dX3_clashesOf_25 ?_
      refine zr_iload_n C 1 rfl rfl dX3_clashesOf_27 ?_
      refine zr_icmp_ne (tgt := 35) C (by decide) dX3_clashesOf_28 (fun hc6 => ?_) (fun hc6 => ?_)
      · have h := zif_f hc6 h
        refine zr_aload_n C 0 rfl rfl dX3_clashesOf_35 ?_
        refine zr_get (ci := 3) (k := 2) (v := .ref (F v0 2)) C k0 (by decide) rfl zinX3 (by decide) wd_130 rfl dX3_clashesOf_36 ?_
        refine zr_iload C 5 rfl dX3_clashesOf_39 ?_
        obtain ⟨hc7, h⟩ := zck_e h
        refine zr_iald C (zt3 hZ k0 2 (by decide)).1 (zt3 hZ k0 2 (by decide)).2 hc7 dX3_clashesOf_41 ?_
        refine zr_istore (lv' := [(6, .int (A (F v0 2) v5.toNatClampNeg)), (0, .ref v0), (1, .int v1), (2, .int v2), (3, .ref v3), (4, .int v4), (5, .int v5)]) C (by decide) rfl dX3_clashesOf_42 ?_
        refine zr_aload_n C 4 rfl rfl dX3_clashesOf_44 ?_
        refine zr_iload_n C 3 rfl rfl dX3_clashesOf_45 ?_
        refine zr_iload C 0 rfl dX3_clashesOf_46 ?_
        refine zr_aload_n C 1 rfl rfl dX3_clashesOf_48 ?_
        refine zr_iload_n C 2 rfl rfl dX3_clashesOf_49 ?_
        refine zr_iload C 6 rfl dX3_clashesOf_50 ?_
        obtain ⟨r8, h9, h⟩ := zb_e h
        refine zr_callVi (n := 2) (As := [.int v1, .int v5]) C (c_X3_isFar l D cy hZ v0 v1 v5 k0 I A h9) wd_350 wd_352 wp_9 wd_6 wd_353 (by decide +kernel) ⟨(Nat.le_trans (Nat.le_of_ble_eq_true rfl) hRf), (Nat.le_trans (Nat.le_of_ble_eq_true rfl) hRl)⟩ rfl rfl hRc k0 (by decide) rfl rfl rfl (Nat.le_of_ble_eq_true rfl) dX3_clashesOf_52 ?_
        obtain ⟨r11, h12, h⟩ := zb_e h
        refine zr_callVi (n := 3) (As := [.int v2, .int (A (F v0 2) v5.toNatClampNeg), .int r8]) C (c_X0_isClash l D cy hZ v3 v2 (A (F v0 2) v5.toNatClampNeg) r8 k3 I A h12) wd_354 wd_355 wd_356 wd_3 wd_357 (by decide +kernel) ⟨(Nat.le_trans (Nat.le_of_ble_eq_true rfl) hRf), (Nat.le_trans (Nat.le_of_ble_eq_true rfl) hRl)⟩ rfl rfl hRc k3 (by decide) rfl rfl rfl (Nat.le_of_ble_eq_true rfl) dX3_clashesOf_55 ?_
        refine zr_if_eq (tgt := 70) C (by decide) dX3_clashesOf_58 (fun hc14 => ?_) (fun hc14 => ?_)
        · have h := zif_t hc14 h
          refine zr_iinc (v := v5 + 1) (lv' := [(5, .int (v5 + 1)), (6, .int (A (F v0 2) v5.toNatClampNeg)), (0, .ref v0), (1, .int v1), (2, .int v2), (3, .ref v3), (4, .int v4)]) C 6 rfl rfl (by decide) rfl dX3_clashesOf_70 ?_
          refine zr_goto (tgt := 6) C (by decide) dX3_clashesOf_73 ?_
          obtain rfl := zso h
          refine zr_lv (lv' := [(0, .ref v0), (1, .int v1), (2, .int v2), (3, .ref v3), (4, .int v4), (5, .int (v5 + 1))]) C [2, 3, 4, 5, 6, 0] rfl ?_
          exact hg _ rfl
        · have h := zif_f hc14 h
          refine zr_iload C 5 rfl dX3_clashesOf_61 ?_
          refine zr_iconst (v := 1) C (by decide) dX3_clashesOf_63 ?_
          refine zr_iload C 6 rfl dX3_clashesOf_64 ?_
          refine zr_ishl C dX3_clashesOf_66 ?_
          refine zr_ior C dX3_clashesOf_67 ?_
          refine zr_istore (lv' := [(4, .int (v4 ||| ((1 : Int32) <<< (v5 &&& 31)))), (6, .int (A (F v0 2) v5.toNatClampNeg)), (0, .ref v0), (1, .int v1), (2, .int v2), (3, .ref v3), (5, .int v5)]) C (by decide) rfl dX3_clashesOf_68 ?_
          refine zr_iinc (v := v5 + 1) (lv' := [(5, .int (v5 + 1)), (4, .int (v4 ||| ((1 : Int32) <<< (v5 &&& 31)))), (6, .int (A (F v0 2) v5.toNatClampNeg)), (0, .ref v0), (1, .int v1), (2, .int v2), (3, .ref v3)]) C 6 rfl rfl (by decide) rfl dX3_clashesOf_70 ?_
          refine zr_goto (tgt := 6) C (by decide) dX3_clashesOf_73 ?_
          obtain rfl := zso h
          refine zr_lv (lv' := [(0, .ref v0), (1, .int v1), (2, .int v2), (3, .ref v3), (4, .int (v4 ||| ((1 : Int32) <<< (v5 &&& 31)))), (5, .int (v5 + 1))]) C [3, 4, 5, 6, 1, 0] rfl ?_
          exact hg _ rfl
      · have h := zif_t hc6 h
        refine zr_iload_n C 2 rfl rfl dX3_clashesOf_31 ?_
        refine zr_goto (tgt := 42) C (by decide) dX3_clashesOf_32 ?_
        refine zr_istore (lv' := [(6, .int v2), (0, .ref v0), (1, .int v1), (2, .int v2), (3, .ref v3), (4, .int v4), (5, .int v5)]) C (by decide) rfl dX3_clashesOf_42 ?_
        refine zr_aload_n C 4 rfl rfl dX3_clashesOf_44 ?_
        refine zr_iload_n C 3 rfl rfl dX3_clashesOf_45 ?_
        refine zr_iload C 0 rfl dX3_clashesOf_46 ?_
        refine zr_aload_n C 1 rfl rfl dX3_clashesOf_48 ?_
        refine zr_iload_n C 2 rfl rfl dX3_clashesOf_49 ?_
        refine zr_iload C 6 rfl dX3_clashesOf_50 ?_
        obtain ⟨r15, h16, h⟩ := zb_e h
        refine zr_callVi (n := 2) (As := [.int v1, .int v5]) C (c_X3_isFar l D cy hZ v0 v1 v5 k0 I A h16) wd_350 wd_352 wp_9 wd_6 wd_353 (by decide +kernel) ⟨(Nat.le_trans (Nat.le_of_ble_eq_true rfl) hRf), (Nat.le_trans (Nat.le_of_ble_eq_true rfl) hRl)⟩ rfl rfl hRc k0 (by decide) rfl rfl rfl (Nat.le_of_ble_eq_true rfl) dX3_clashesOf_52 ?_
        obtain ⟨r18, h19, h⟩ := zb_e h
        refine zr_callVi (n := 3) (As := [.int v2, .int v2, .int r15]) C (c_X0_isClash l D cy hZ v3 v2 v2 r15 k3 I A h19) wd_354 wd_355 wd_356 wd_3 wd_357 (by decide +kernel) ⟨(Nat.le_trans (Nat.le_of_ble_eq_true rfl) hRf), (Nat.le_trans (Nat.le_of_ble_eq_true rfl) hRl)⟩ rfl rfl hRc k3 (by decide) rfl rfl rfl (Nat.le_of_ble_eq_true rfl) dX3_clashesOf_55 ?_
        refine zr_if_eq (tgt := 70) C (by decide) dX3_clashesOf_58 (fun hc21 => ?_) (fun hc21 => ?_)
        · have h := zif_t hc21 h
          refine zr_iinc (v := v5 + 1) (lv' := [(5, .int (v5 + 1)), (6, .int v2), (0, .ref v0), (1, .int v1), (2, .int v2), (3, .ref v3), (4, .int v4)]) C 6 rfl rfl (by decide) rfl dX3_clashesOf_70 ?_
          refine zr_goto (tgt := 6) C (by decide) dX3_clashesOf_73 ?_
          obtain rfl := zso h
          refine zr_lv (lv' := [(0, .ref v0), (1, .int v1), (2, .int v2), (3, .ref v3), (4, .int v4), (5, .int (v5 + 1))]) C [2, 3, 4, 5, 6, 0] rfl ?_
          exact hg _ rfl
        · have h := zif_f hc21 h
          refine zr_iload C 5 rfl dX3_clashesOf_61 ?_
          refine zr_iconst (v := 1) C (by decide) dX3_clashesOf_63 ?_
          refine zr_iload C 6 rfl dX3_clashesOf_64 ?_
          refine zr_ishl C dX3_clashesOf_66 ?_
          refine zr_ior C dX3_clashesOf_67 ?_
          refine zr_istore (lv' := [(4, .int (v4 ||| ((1 : Int32) <<< (v5 &&& 31)))), (6, .int v2), (0, .ref v0), (1, .int v1), (2, .int v2), (3, .ref v3), (5, .int v5)]) C (by decide) rfl dX3_clashesOf_68 ?_
          refine zr_iinc (v := v5 + 1) (lv' := [(5, .int (v5 + 1)), (4, .int (v4 ||| ((1 : Int32) <<< (v5 &&& 31)))), (6, .int v2), (0, .ref v0), (1, .int v1), (2, .int v2), (3, .ref v3)]) C 6 rfl rfl (by decide) rfl dX3_clashesOf_70 ?_
          refine zr_goto (tgt := 6) C (by decide) dX3_clashesOf_73 ?_
          obtain rfl := zso h
          refine zr_lv (lv' := [(0, .ref v0), (1, .int v1), (2, .int v2), (3, .ref v3), (4, .int (v4 ||| ((1 : Int32) <<< (v5 &&& 31)))), (5, .int (v5 + 1))]) C [3, 4, 5, 6, 1, 0] rfl ?_
          exact hg _ rfl
set_option maxHeartbeats 4000000 in
set_option maxRecDepth 100000 in
theorem w_X3_clashesOf_6 (l : Launch) (D : va_G) (cy : Nat → ClassId) {L : List Nat} {K N : Nat → Nat} {F G : Nat → Nat → Nat} (hZ : ZL L K N F G) {p : Program} {e : Env} {R : Room} {s : State} {m : MethodId} {args : Array Value} {below : List Frame} {meth : Method} {c : Code} {cells slots : Nat} {Q : State → Prop} (C : ZC p s m args meth c cX3_clashesOf yX3_clashesOf.cls 7 D cy L K N F G) (hRf : 1 ≤ R.frames) (hRl : 24 ≤ R.locals) (hRc : cells ≤ R.cells ∧ slots ≤ R.slots)  (v0 : Nat) (v1 : Int32) (v2 : Int32) (v3 : Nat) (k0 : K v0 = 3) (k3 : K v3 = 0) (I : zH) (A : zH) (n : Nat) (x : Int32 × Int32) (o : Int32 × Int32) (h : zIt (fun x => g_X3_clashesOf_6 F G v0 v1 v2 v3 x.1 x.2 I A) n x = some o)
    (hx : ZW p l e R s m args below meth c 7 D cy L K N F G cells slots Q I A 76 [(0, .ref v0), (1, .int v1), (2, .int v2), (3, .ref v3), (4, .int o.1), (5, .int o.2)] []) : ZW p l e R s m args below meth c 7 D cy L K N F G cells slots Q I A 6 [(0, .ref v0), (1, .int v1), (2, .int v2), (3, .ref v3), (4, .int x.1), (5, .int x.2)] [] := by
  induction n generalizing x with
  | zero => cases h
  | succ n ih =>
    unfold zIt at h
    cases hb : g_X3_clashesOf_6 F G v0 v1 v2 v3 x.1 x.2 I A with
    | none => rw [hb] at h; cases h
    | some q =>
      rw [hb] at h
      refine wb_X3_clashesOf_6 l D cy hZ C hRf hRl hRc v0 v1 v2 v3 k0 k3 I A x.1 x.2 q hb (fun y hy => ?_) (fun y hy => ?_)
      · subst hy; exact ih y h
      · subst hy; cases h; exact hx
set_option maxHeartbeats 4000000 in
set_option maxRecDepth 100000 in
theorem c_X3_clashesOf (l : Launch) (D : va_G) (cy : Nat → ClassId) {L : List Nat} {K N : Nat → Nat} {F G : Nat → Nat → Nat} (hZ : ZL L K N F G) (h0 : Nat) (p0 : Int32) (p1 : Int32) (r2 : Nat) (k_h0 : K h0 = 3) (k_r2 : K r2 = 0) (I A : zH) {r : Int32} (h : f_X3_clashesOf F G h0 p0 p1 r2 I A = some r) : ZMi l yX3_clashesOf cX3_clashesOf 7 (some .int) { frames := 1, cells := 0, slots := 0, locals := 24 } D cy L K N F G [.ref h0, .int p0, .int p1, .ref r2] I A r I A := by
  refine ZMi.of (nL := 7) hZ rfl rfl (by decide) (Nat.le_of_ble_eq_true rfl) (fun p e s m args below meth c C hr => ?_)
  unfold f_X3_clashesOf at h
  refine zr_lv (lv' := [(0, .ref h0), (1, .int p0), (2, .int p1), (3, .ref r2)]) C [0, 1, 2, 3] rfl ?_
  refine zr_iconst (v := 0) C (by decide) dX3_clashesOf_0 ?_
  refine zr_istore (lv' := [(4, .int 0), (0, .ref h0), (1, .int p0), (2, .int p1), (3, .ref r2)]) C (by decide) rfl dX3_clashesOf_1 ?_
  refine zr_iconst (v := 0) C (by decide) dX3_clashesOf_3 ?_
  refine zr_istore (lv' := [(5, .int 0), (4, .int 0), (0, .ref h0), (1, .int p0), (2, .int p1), (3, .ref r2)]) C (by decide) rfl dX3_clashesOf_4 ?_
  obtain ⟨i1, i2, h3, h⟩ := zb2_e h
  refine zr_lv (lv' := [(0, .ref h0), (1, .int p0), (2, .int p1), (3, .ref r2), (4, .int 0), (5, .int 0)]) C [2, 3, 4, 5, 1, 0] rfl ?_
  refine w_X3_clashesOf_6 l D cy hZ C (Nat.le_of_ble_eq_true rfl) (Nat.le_of_ble_eq_true rfl) ⟨Nat.le_refl _, Nat.le_refl _⟩ h0 p0 p1 r2 k_h0 k_r2 I A 2000 (0, 0) (i1, i2) h3 ?_
  refine zr_iload C 4 rfl dX3_clashesOf_76 ?_
  obtain rfl := zso h
  exact zr_iret C hr dX3_clashesOf_78

def g_X3_countClashes_4 (F G : Nat → Nat → Nat) (v0 : Nat) (v1 : Nat) (v2 : Int32) (v3 : Int32) (I : zH) (A : zH) : Option ((Int32 × Int32) ⊕ (Int32 × Int32)) :=
  if 10 ≤ v3 then (
    some (.inr (v2, v3))
  ) else (
    zb (f_X5_hasBit F G (I v0 4) v3 I A) fun r2 =>
    if r2 = 0 then (
      some (.inl (v2, v3 + 1))
    ) else (
      zck (¬ (v3 < 0 ∨ 10 ≤ v3.toNatClampNeg)) <|
      zb (f_X3_clashesOf F G v0 v3 (A (F v0 2) v3.toNatClampNeg) v1 I A) fun r7 =>
      zb (f_J6_bitCount_0f7a4 F G (r7 &&& (((2 : Int32) <<< (v3 &&& 31)) - 1)) I A) fun r10 =>
      some (.inl (v2 + r10, v3 + 1))
    )
  )
def f_X3_countClashes (F G : Nat → Nat → Nat) (h0 : Nat) (r0 : Nat) (I A : zH) : Option (Int32) :=
  zb2 (zIt (fun x => g_X3_countClashes_4 F G h0 r0 x.1 x.2 I A) 2000 (0, 0)) fun i1 i2 =>
  some i1
set_option maxHeartbeats 4000000 in
set_option maxRecDepth 100000 in
theorem wb_X3_countClashes_4 (l : Launch) (D : va_G) (cy : Nat → ClassId) {L : List Nat} {K N : Nat → Nat} {F G : Nat → Nat → Nat} (hZ : ZL L K N F G) {p : Program} {e : Env} {R : Room} {s : State} {m : MethodId} {args : Array Value} {below : List Frame} {meth : Method} {c : Code} {cells slots : Nat} {Q : State → Prop} (C : ZC p s m args meth c cX3_countClashes yX3_countClashes.cls 5 D cy L K N F G) (hRf : 2 ≤ R.frames) (hRl : 50 ≤ R.locals) (hRc : cells ≤ R.cells ∧ slots ≤ R.slots)  (v0 : Nat) (v1 : Nat) (k0 : K v0 = 3) (k1 : K v1 = 0) (I : zH) (A : zH) (v2 : Int32) (v3 : Int32) (o : (Int32 × Int32) ⊕ (Int32 × Int32)) (h : g_X3_countClashes_4 F G v0 v1 v2 v3 I A = some o)
    (hg : ∀ y : Int32 × Int32, o = .inl y → ZW p l e R s m args below meth c 5 D cy L K N F G cells slots Q I A 4 [(0, .ref v0), (1, .ref v1), (2, .int y.1), (3, .int y.2)] [])
    (hx : ∀ y : Int32 × Int32, o = .inr y → ZW p l e R s m args below meth c 5 D cy L K N F G cells slots Q I A 55 [(0, .ref v0), (1, .ref v1), (2, .int y.1), (3, .int y.2)] []) : ZW p l e R s m args below meth c 5 D cy L K N F G cells slots Q I A 4 [(0, .ref v0), (1, .ref v1), (2, .int v2), (3, .int v3)] [] := by
  unfold g_X3_countClashes_4 at h
  refine zr_iload_n C 3 rfl rfl dX3_countClashes_4 ?_
  refine zr_bipush (v := 10) C (by decide) dX3_countClashes_5 ?_
  refine zr_icmp_ge (tgt := 55) C (by decide) dX3_countClashes_7 (fun hc1 => ?_) (fun hc1 => ?_)
  · have h := zif_t hc1 h
    obtain rfl := zso h
    refine zr_lv (lv' := [(0, .ref v0), (1, .ref v1), (2, .int v2), (3, .int v3)]) C [0, 1, 2, 3] rfl ?_
    exact hx _ rfl
  · have h := zif_f hc1 h
    refine zr_aload_n C 0 rfl rfl dX3_countClashes_10 ?_
    refine zr_get (ci := 3) (k := 4) (v := .int (I v0 4)) C k0 (by decide) rfl zinX3 (by decide) wd_133 rfl dX3_countClashes_11 ?_
    refine zr_iload_n C 3 rfl rfl dX3_countClashes_14 ?_
    obtain ⟨r2, h3, h⟩ := zb_e h
    refine zr_callNi (n := 2) (As := [.int (I v0 4), .int v3]) C (c_X5_hasBit l D cy hZ (I v0 4) v3 I A h3) C.nb.2 wd_323 wd_1 wd_324 (by decide +kernel) ⟨(Nat.le_trans (Nat.le_of_ble_eq_true rfl) hRf), (Nat.le_trans (Nat.le_of_ble_eq_true rfl) hRl)⟩ rfl rfl hRc rfl rfl (Nat.le_of_ble_eq_true rfl) dX3_countClashes_15 ?_
    refine zr_if_eq (tgt := 49) C (by decide) dX3_countClashes_18 (fun hc5 => ?_) (fun hc5 => ?_)
    · have h := zif_t hc5 h
      refine zr_iinc (v := v3 + 1) (lv' := [(3, .int (v3 + 1)), (0, .ref v0), (1, .ref v1), (2, .int v2)]) C 3 rfl rfl (by decide) rfl dX3_countClashes_49 ?_
      refine zr_goto (tgt := 4) C (by decide) dX3_countClashes_52 ?_
      obtain rfl := zso h
      refine zr_lv (lv' := [(0, .ref v0), (1, .ref v1), (2, .int v2), (3, .int (v3 + 1))]) C [1, 2, 3, 0] rfl ?_
      exact hg _ rfl
    · have h := zif_f hc5 h
      refine zr_iconst (v := 2) C (by decide) dX3_countClashes_21 ?_
      refine zr_iload_n C 3 rfl rfl dX3_countClashes_22 ?_
      refine zr_ishl C dX3_countClashes_23 ?_
      refine zr_iconst (v := 1) C (by decide) dX3_countClashes_24 ?_
      refine zr_isub C dX3_countClashes_25 ?_
      refine zr_istore (lv' := [(4, .int (((2 : Int32) <<< (v3 &&& 31)) - 1)), (0, .ref v0), (1, .ref v1), (2, .int v2), (3, .int v3)]) C (by decide) rfl dX3_countClashes_26 ?_
      refine zr_iload_n C 3 rfl rfl dX3_countClashes_28 ?_
      refine zr_aload_n C 1 rfl rfl dX3_countClashes_29 ?_
      refine zr_iload_n C 4 rfl rfl dX3_countClashes_30 ?_
      refine zr_aload_n C 1 rfl rfl dX3_countClashes_31 ?_
      refine zr_get (ci := 3) (k := 2) (v := .ref (F v0 2)) C k0 (by decide) rfl zinX3 (by decide) wd_130 rfl dX3_countClashes_32 ?_
      refine zr_iload_n C 4 rfl rfl dX3_countClashes_35 ?_
      obtain ⟨hc6, h⟩ := zck_e h
      refine zr_iald C (zt3 hZ k0 2 (by decide)).1 (zt3 hZ k0 2 (by decide)).2 hc6 dX3_countClashes_36 ?_
      refine zr_aload_n C 2 rfl rfl dX3_countClashes_37 ?_
      obtain ⟨r7, h8, h⟩ := zb_e h
      refine zr_callVi (n := 3) (As := [.int v3, .int (A (F v0 2) v3.toNatClampNeg), .ref v1]) C (c_X3_clashesOf l D cy hZ v0 v3 (A (F v0 2) v3.toNatClampNeg) v1 k0 k1 I A h8) wd_346 wd_347 wd_348 wd_6 wd_349 (by decide +kernel) ⟨(Nat.le_trans (Nat.le_of_ble_eq_true rfl) hRf), (Nat.le_trans (Nat.le_of_ble_eq_true rfl) hRl)⟩ rfl rfl hRc k0 (by decide) rfl rfl rfl (Nat.le_of_ble_eq_true rfl) dX3_countClashes_38 ?_
      refine zr_iload C 0 rfl dX3_countClashes_41 ?_
      refine zr_iand C dX3_countClashes_43 ?_
      obtain ⟨r10, h11, h⟩ := zb_e h
      refine zr_callSi (n := 1) (As := [.int (r7 &&& (((2 : Int32) <<< (v3 &&& 31)) - 1))]) C (c_J6_bitCount_0f7a4 l D cy hZ (r7 &&& (((2 : Int32) <<< (v3 &&& 31)) - 1)) I A h11) wd_358 wd_359 wd_12 wd_360 (by decide +kernel) ⟨(Nat.le_trans (Nat.le_of_ble_eq_true rfl) hRf), (Nat.le_trans (Nat.le_of_ble_eq_true rfl) hRl)⟩ rfl rfl hRc rfl rfl (Nat.le_of_ble_eq_true rfl) dX3_countClashes_44 ?_
      refine zr_iadd C dX3_countClashes_47 ?_
      refine zr_istore_n (lv' := [(2, .int (v2 + r10)), (4, .int (((2 : Int32) <<< (v3 &&& 31)) - 1)), (0, .ref v0), (1, .ref v1), (3, .int v3)]) C rfl (by decide) rfl dX3_countClashes_48 ?_
      refine zr_iinc (v := v3 + 1) (lv' := [(3, .int (v3 + 1)), (2, .int (v2 + r10)), (4, .int (((2 : Int32) <<< (v3 &&& 31)) - 1)), (0, .ref v0), (1, .ref v1)]) C 4 rfl rfl (by decide) rfl dX3_countClashes_49 ?_
      refine zr_goto (tgt := 4) C (by decide) dX3_countClashes_52 ?_
      obtain rfl := zso h
      refine zr_lv (lv' := [(0, .ref v0), (1, .ref v1), (2, .int (v2 + r10)), (3, .int (v3 + 1))]) C [3, 4, 1, 0] rfl ?_
      exact hg _ rfl
set_option maxHeartbeats 4000000 in
set_option maxRecDepth 100000 in
theorem w_X3_countClashes_4 (l : Launch) (D : va_G) (cy : Nat → ClassId) {L : List Nat} {K N : Nat → Nat} {F G : Nat → Nat → Nat} (hZ : ZL L K N F G) {p : Program} {e : Env} {R : Room} {s : State} {m : MethodId} {args : Array Value} {below : List Frame} {meth : Method} {c : Code} {cells slots : Nat} {Q : State → Prop} (C : ZC p s m args meth c cX3_countClashes yX3_countClashes.cls 5 D cy L K N F G) (hRf : 2 ≤ R.frames) (hRl : 50 ≤ R.locals) (hRc : cells ≤ R.cells ∧ slots ≤ R.slots)  (v0 : Nat) (v1 : Nat) (k0 : K v0 = 3) (k1 : K v1 = 0) (I : zH) (A : zH) (n : Nat) (x : Int32 × Int32) (o : Int32 × Int32) (h : zIt (fun x => g_X3_countClashes_4 F G v0 v1 x.1 x.2 I A) n x = some o)
    (hx : ZW p l e R s m args below meth c 5 D cy L K N F G cells slots Q I A 55 [(0, .ref v0), (1, .ref v1), (2, .int o.1), (3, .int o.2)] []) : ZW p l e R s m args below meth c 5 D cy L K N F G cells slots Q I A 4 [(0, .ref v0), (1, .ref v1), (2, .int x.1), (3, .int x.2)] [] := by
  induction n generalizing x with
  | zero => cases h
  | succ n ih =>
    unfold zIt at h
    cases hb : g_X3_countClashes_4 F G v0 v1 x.1 x.2 I A with
    | none => rw [hb] at h; cases h
    | some q =>
      rw [hb] at h
      refine wb_X3_countClashes_4 l D cy hZ C hRf hRl hRc v0 v1 k0 k1 I A x.1 x.2 q hb (fun y hy => ?_) (fun y hy => ?_)
      · subst hy; exact ih y h
      · subst hy; cases h; exact hx
set_option maxHeartbeats 4000000 in
set_option maxRecDepth 100000 in
theorem c_X3_countClashes (l : Launch) (D : va_G) (cy : Nat → ClassId) {L : List Nat} {K N : Nat → Nat} {F G : Nat → Nat → Nat} (hZ : ZL L K N F G) (h0 : Nat) (r0 : Nat) (k_h0 : K h0 = 3) (k_r0 : K r0 = 0) (I A : zH) {r : Int32} (h : f_X3_countClashes F G h0 r0 I A = some r) : ZMi l yX3_countClashes cX3_countClashes 5 (some .int) { frames := 2, cells := 0, slots := 0, locals := 50 } D cy L K N F G [.ref h0, .ref r0] I A r I A := by
  refine ZMi.of (nL := 5) hZ rfl rfl (by decide) (Nat.le_of_ble_eq_true rfl) (fun p e s m args below meth c C hr => ?_)
  unfold f_X3_countClashes at h
  refine zr_lv (lv' := [(0, .ref h0), (1, .ref r0)]) C [0, 1] rfl ?_
  refine zr_iconst (v := 0) C (by decide) dX3_countClashes_0 ?_
  refine zr_istore_n (lv' := [(2, .int 0), (0, .ref h0), (1, .ref r0)]) C rfl (by decide) rfl dX3_countClashes_1 ?_
  refine zr_iconst (v := 0) C (by decide) dX3_countClashes_2 ?_
  refine zr_istore_n (lv' := [(3, .int 0), (2, .int 0), (0, .ref h0), (1, .ref r0)]) C rfl (by decide) rfl dX3_countClashes_3 ?_
  obtain ⟨i1, i2, h3, h⟩ := zb2_e h
  refine zr_lv (lv' := [(0, .ref h0), (1, .ref r0), (2, .int 0), (3, .int 0)]) C [2, 3, 1, 0] rfl ?_
  refine w_X3_countClashes_4 l D cy hZ C (Nat.le_of_ble_eq_true rfl) (Nat.le_of_ble_eq_true rfl) ⟨Nat.le_refl _, Nat.le_refl _⟩ h0 r0 k_h0 k_r0 I A 2000 (0, 0) (i1, i2) h3 ?_
  refine zr_iload_n C 2 rfl rfl dX3_countClashes_55 ?_
  obtain rfl := zso h
  exact zr_iret C hr dX3_countClashes_56

def g_X3_duties_4 (F G : Nat → Nat → Nat) (v0 : Nat) (v1 : Nat) (v2 : Int32) (v3 : Int32) (I : zH) (A : zH) : Option ((Int32 × Int32) ⊕ (Int32 × Int32)) :=
  if 10 ≤ v3 then (
    some (.inr (v2, v3))
  ) else (
    zb (f_X5_hasBit F G (I v0 4) v3 I A) fun r2 =>
    if r2 = 0 then (
      some (.inl (v2, v3 + 1))
    ) else (
      zck (¬ (v3 < 0 ∨ 10 ≤ v3.toNatClampNeg)) <|
      zb (f_X0_dutiesOf F G v1 (A (F v0 2) v3.toNatClampNeg) I A) fun r7 =>
      some (.inl (v2 ||| r7, v3 + 1))
    )
  )
def f_X3_duties (F G : Nat → Nat → Nat) (h0 : Nat) (r0 : Nat) (I A : zH) : Option (Int32) :=
  zb2 (zIt (fun x => g_X3_duties_4 F G h0 r0 x.1 x.2 I A) 2000 (0, 0)) fun i1 i2 =>
  some (i1 &&& ((I h0 5) ^^^ (-1)))
set_option maxHeartbeats 4000000 in
set_option maxRecDepth 100000 in
theorem wb_X3_duties_4 (l : Launch) (D : va_G) (cy : Nat → ClassId) {L : List Nat} {K N : Nat → Nat} {F G : Nat → Nat → Nat} (hZ : ZL L K N F G) {p : Program} {e : Env} {R : Room} {s : State} {m : MethodId} {args : Array Value} {below : List Frame} {meth : Method} {c : Code} {cells slots : Nat} {Q : State → Prop} (C : ZC p s m args meth c cX3_duties yX3_duties.cls 4 D cy L K N F G) (hRf : 1 ≤ R.frames) (hRl : 21 ≤ R.locals) (hRc : cells ≤ R.cells ∧ slots ≤ R.slots)  (v0 : Nat) (v1 : Nat) (k0 : K v0 = 3) (k1 : K v1 = 0) (I : zH) (A : zH) (v2 : Int32) (v3 : Int32) (o : (Int32 × Int32) ⊕ (Int32 × Int32)) (h : g_X3_duties_4 F G v0 v1 v2 v3 I A = some o)
    (hg : ∀ y : Int32 × Int32, o = .inl y → ZW p l e R s m args below meth c 4 D cy L K N F G cells slots Q I A 4 [(0, .ref v0), (1, .ref v1), (2, .int y.1), (3, .int y.2)] [])
    (hx : ∀ y : Int32 × Int32, o = .inr y → ZW p l e R s m args below meth c 4 D cy L K N F G cells slots Q I A 40 [(0, .ref v0), (1, .ref v1), (2, .int y.1), (3, .int y.2)] []) : ZW p l e R s m args below meth c 4 D cy L K N F G cells slots Q I A 4 [(0, .ref v0), (1, .ref v1), (2, .int v2), (3, .int v3)] [] := by
  unfold g_X3_duties_4 at h
  refine zr_iload_n C 3 rfl rfl dX3_duties_4 ?_
  refine zr_bipush (v := 10) C (by decide) dX3_duties_5 ?_
  refine zr_icmp_ge (tgt := 40) C (by decide) dX3_duties_7 (fun hc1 => ?_) (fun hc1 => ?_)
  · have h := zif_t hc1 h
    obtain rfl := zso h
    refine zr_lv (lv' := [(0, .ref v0), (1, .ref v1), (2, .int v2), (3, .int v3)]) C [0, 1, 2, 3] rfl ?_
    exact hx _ rfl
  · have h := zif_f hc1 h
    refine zr_aload_n C 0 rfl rfl dX3_duties_10 ?_
    refine zr_get (ci := 3) (k := 4) (v := .int (I v0 4)) C k0 (by decide) rfl zinX3 (by decide) wd_133 rfl dX3_duties_11 ?_
    refine zr_iload_n C 3 rfl rfl dX3_duties_14 ?_
    obtain ⟨r2, h3, h⟩ := zb_e h
    refine zr_callNi (n := 2) (As := [.int (I v0 4), .int v3]) C (c_X5_hasBit l D cy hZ (I v0 4) v3 I A h3) C.nb.2 wd_323 wd_1 wd_324 (by decide +kernel) ⟨(Nat.le_trans (Nat.le_of_ble_eq_true rfl) hRf), (Nat.le_trans (Nat.le_of_ble_eq_true rfl) hRl)⟩ rfl rfl hRc rfl rfl (Nat.le_of_ble_eq_true rfl) dX3_duties_15 ?_
    refine zr_if_eq (tgt := 34) C (by decide) dX3_duties_18 (fun hc5 => ?_) (fun hc5 => ?_)
    · have h := zif_t hc5 h
      refine zr_iinc (v := v3 + 1) (lv' := [(3, .int (v3 + 1)), (0, .ref v0), (1, .ref v1), (2, .int v2)]) C 3 rfl rfl (by decide) rfl dX3_duties_34 ?_
      refine zr_goto (tgt := 4) C (by decide) dX3_duties_37 ?_
      obtain rfl := zso h
      refine zr_lv (lv' := [(0, .ref v0), (1, .ref v1), (2, .int v2), (3, .int (v3 + 1))]) C [1, 2, 3, 0] rfl ?_
      exact hg _ rfl
    · have h := zif_f hc5 h
      refine zr_iload_n C 2 rfl rfl dX3_duties_21 ?_
      refine zr_aload_n C 1 rfl rfl dX3_duties_22 ?_
      refine zr_aload_n C 0 rfl rfl dX3_duties_23 ?_
      refine zr_get (ci := 3) (k := 2) (v := .ref (F v0 2)) C k0 (by decide) rfl zinX3 (by decide) wd_130 rfl dX3_duties_24 ?_
      refine zr_iload_n C 3 rfl rfl dX3_duties_27 ?_
      obtain ⟨hc6, h⟩ := zck_e h
      refine zr_iald C (zt3 hZ k0 2 (by decide)).1 (zt3 hZ k0 2 (by decide)).2 hc6 dX3_duties_28 ?_
      obtain ⟨r7, h8, h⟩ := zb_e h
      refine zr_callVi (n := 1) (As := [.int (A (F v0 2) v3.toNatClampNeg)]) C (c_X0_dutiesOf l D cy hZ v1 (A (F v0 2) v3.toNatClampNeg) k1 I A h8) wd_338 wd_339 wd_340 wd_3 wd_341 (by decide +kernel) ⟨(Nat.le_trans (Nat.le_of_ble_eq_true rfl) hRf), (Nat.le_trans (Nat.le_of_ble_eq_true rfl) hRl)⟩ rfl rfl hRc k1 (by decide) rfl rfl rfl (Nat.le_of_ble_eq_true rfl) dX3_duties_29 ?_
      refine zr_ior C dX3_duties_32 ?_
      refine zr_istore_n (lv' := [(2, .int (v2 ||| r7)), (0, .ref v0), (1, .ref v1), (3, .int v3)]) C rfl (by decide) rfl dX3_duties_33 ?_
      refine zr_iinc (v := v3 + 1) (lv' := [(3, .int (v3 + 1)), (2, .int (v2 ||| r7)), (0, .ref v0), (1, .ref v1)]) C 3 rfl rfl (by decide) rfl dX3_duties_34 ?_
      refine zr_goto (tgt := 4) C (by decide) dX3_duties_37 ?_
      obtain rfl := zso h
      refine zr_lv (lv' := [(0, .ref v0), (1, .ref v1), (2, .int (v2 ||| r7)), (3, .int (v3 + 1))]) C [2, 3, 1, 0] rfl ?_
      exact hg _ rfl
set_option maxHeartbeats 4000000 in
set_option maxRecDepth 100000 in
theorem w_X3_duties_4 (l : Launch) (D : va_G) (cy : Nat → ClassId) {L : List Nat} {K N : Nat → Nat} {F G : Nat → Nat → Nat} (hZ : ZL L K N F G) {p : Program} {e : Env} {R : Room} {s : State} {m : MethodId} {args : Array Value} {below : List Frame} {meth : Method} {c : Code} {cells slots : Nat} {Q : State → Prop} (C : ZC p s m args meth c cX3_duties yX3_duties.cls 4 D cy L K N F G) (hRf : 1 ≤ R.frames) (hRl : 21 ≤ R.locals) (hRc : cells ≤ R.cells ∧ slots ≤ R.slots)  (v0 : Nat) (v1 : Nat) (k0 : K v0 = 3) (k1 : K v1 = 0) (I : zH) (A : zH) (n : Nat) (x : Int32 × Int32) (o : Int32 × Int32) (h : zIt (fun x => g_X3_duties_4 F G v0 v1 x.1 x.2 I A) n x = some o)
    (hx : ZW p l e R s m args below meth c 4 D cy L K N F G cells slots Q I A 40 [(0, .ref v0), (1, .ref v1), (2, .int o.1), (3, .int o.2)] []) : ZW p l e R s m args below meth c 4 D cy L K N F G cells slots Q I A 4 [(0, .ref v0), (1, .ref v1), (2, .int x.1), (3, .int x.2)] [] := by
  induction n generalizing x with
  | zero => cases h
  | succ n ih =>
    unfold zIt at h
    cases hb : g_X3_duties_4 F G v0 v1 x.1 x.2 I A with
    | none => rw [hb] at h; cases h
    | some q =>
      rw [hb] at h
      refine wb_X3_duties_4 l D cy hZ C hRf hRl hRc v0 v1 k0 k1 I A x.1 x.2 q hb (fun y hy => ?_) (fun y hy => ?_)
      · subst hy; exact ih y h
      · subst hy; cases h; exact hx
set_option maxHeartbeats 4000000 in
set_option maxRecDepth 100000 in
theorem c_X3_duties (l : Launch) (D : va_G) (cy : Nat → ClassId) {L : List Nat} {K N : Nat → Nat} {F G : Nat → Nat → Nat} (hZ : ZL L K N F G) (h0 : Nat) (r0 : Nat) (k_h0 : K h0 = 3) (k_r0 : K r0 = 0) (I A : zH) {r : Int32} (h : f_X3_duties F G h0 r0 I A = some r) : ZMi l yX3_duties cX3_duties 4 (some .int) { frames := 1, cells := 0, slots := 0, locals := 21 } D cy L K N F G [.ref h0, .ref r0] I A r I A := by
  refine ZMi.of (nL := 4) hZ rfl rfl (by decide) (Nat.le_of_ble_eq_true rfl) (fun p e s m args below meth c C hr => ?_)
  unfold f_X3_duties at h
  refine zr_lv (lv' := [(0, .ref h0), (1, .ref r0)]) C [0, 1] rfl ?_
  refine zr_iconst (v := 0) C (by decide) dX3_duties_0 ?_
  refine zr_istore_n (lv' := [(2, .int 0), (0, .ref h0), (1, .ref r0)]) C rfl (by decide) rfl dX3_duties_1 ?_
  refine zr_iconst (v := 0) C (by decide) dX3_duties_2 ?_
  refine zr_istore_n (lv' := [(3, .int 0), (2, .int 0), (0, .ref h0), (1, .ref r0)]) C rfl (by decide) rfl dX3_duties_3 ?_
  obtain ⟨i1, i2, h3, h⟩ := zb2_e h
  refine zr_lv (lv' := [(0, .ref h0), (1, .ref r0), (2, .int 0), (3, .int 0)]) C [2, 3, 1, 0] rfl ?_
  refine w_X3_duties_4 l D cy hZ C (Nat.le_of_ble_eq_true rfl) (Nat.le_of_ble_eq_true rfl) ⟨Nat.le_refl _, Nat.le_refl _⟩ h0 r0 k_h0 k_r0 I A 2000 (0, 0) (i1, i2) h3 ?_
  refine zr_iload_n C 2 rfl rfl dX3_duties_40 ?_
  refine zr_aload_n C 0 rfl rfl dX3_duties_41 ?_
  refine zr_get (ci := 3) (k := 5) (v := .int (I h0 5)) C k_h0 (by decide) rfl zinX3 (by decide) wd_135 rfl dX3_duties_42 ?_
  refine zr_iconst (v := (-1)) C (by decide) dX3_duties_45 ?_
  refine zr_ixor C dX3_duties_46 ?_
  refine zr_iand C dX3_duties_47 ?_
  obtain rfl := zso h
  exact zr_iret C hr dX3_duties_48

def g_X3_takeClashes_4 (F G : Nat → Nat → Nat) (v0 : Nat) (v1 : Nat) (v2 : Int32) (v3 : Int32) (A : zH) (I : zH) : Option ((Int32 × Int32 × zH) ⊕ (Int32 × Int32 × zH)) :=
  if 10 ≤ v3 then (
    some (.inr (v2, v3, A))
  ) else (
    zb (f_X5_hasBit F G (I v0 4) v3 I A) fun r2 =>
    if r2 = 0 then (
      zck (¬ (v3 < 0 ∨ 10 ≤ v3.toNatClampNeg)) <|
      zlet (up2 A (F v0 3) v3.toNatClampNeg 0) fun A7 =>
      zck (¬ (v3 < 0 ∨ 10 ≤ v3.toNatClampNeg)) <|
      some (.inl (v2 ||| (A7 (F v0 3) v3.toNatClampNeg), v3 + 1, A7))
    ) else (
      zck (¬ (v3 < 0 ∨ 10 ≤ v3.toNatClampNeg)) <|
      zb (f_X3_clashesOf F G v0 v3 (A (F v0 2) v3.toNatClampNeg) v1 I A) fun r10 =>
      zck (¬ (v3 < 0 ∨ 10 ≤ v3.toNatClampNeg)) <|
      zlet (up2 A (F v0 3) v3.toNatClampNeg r10) fun A14 =>
      zck (¬ (v3 < 0 ∨ 10 ≤ v3.toNatClampNeg)) <|
      some (.inl (v2 ||| (A14 (F v0 3) v3.toNatClampNeg), v3 + 1, A14))
    )
  )
def f_X3_takeClashes (F G : Nat → Nat → Nat) (h0 : Nat) (r0 : Nat) (I A : zH) : Option (Int32 × zH) :=
  zb3 (zIt (fun x => g_X3_takeClashes_4 F G h0 r0 x.1 x.2.1 x.2.2 I ) 2000 (0, 0, A)) fun i1 i2 A3 =>
  some (i1, A3)
set_option maxHeartbeats 4000000 in
set_option maxRecDepth 100000 in
theorem wb_X3_takeClashes_4 (l : Launch) (D : va_G) (cy : Nat → ClassId) {L : List Nat} {K N : Nat → Nat} {F G : Nat → Nat → Nat} (hZ : ZL L K N F G) {p : Program} {e : Env} {R : Room} {s : State} {m : MethodId} {args : Array Value} {below : List Frame} {meth : Method} {c : Code} {cells slots : Nat} {Q : State → Prop} (C : ZC p s m args meth c cX3_takeClashes yX3_takeClashes.cls 4 D cy L K N F G) (hRf : 2 ≤ R.frames) (hRl : 50 ≤ R.locals) (hRc : cells ≤ R.cells ∧ slots ≤ R.slots)  (v0 : Nat) (v1 : Nat) (k0 : K v0 = 3) (k1 : K v1 = 0) (I : zH) (v2 : Int32) (v3 : Int32) (A : zH) (o : (Int32 × Int32 × zH) ⊕ (Int32 × Int32 × zH)) (h : g_X3_takeClashes_4 F G v0 v1 v2 v3 A I = some o)
    (hg : ∀ y : Int32 × Int32 × zH, o = .inl y → ZW p l e R s m args below meth c 4 D cy L K N F G cells slots Q I y.2.2 4 [(0, .ref v0), (1, .ref v1), (2, .int y.1), (3, .int y.2.1)] [])
    (hx : ∀ y : Int32 × Int32 × zH, o = .inr y → ZW p l e R s m args below meth c 4 D cy L K N F G cells slots Q I y.2.2 58 [(0, .ref v0), (1, .ref v1), (2, .int y.1), (3, .int y.2.1)] []) : ZW p l e R s m args below meth c 4 D cy L K N F G cells slots Q I A 4 [(0, .ref v0), (1, .ref v1), (2, .int v2), (3, .int v3)] [] := by
  unfold g_X3_takeClashes_4 at h
  refine zr_iload_n C 3 rfl rfl dX3_takeClashes_4 ?_
  refine zr_bipush (v := 10) C (by decide) dX3_takeClashes_5 ?_
  refine zr_icmp_ge (tgt := 58) C (by decide) dX3_takeClashes_7 (fun hc1 => ?_) (fun hc1 => ?_)
  · have h := zif_t hc1 h
    obtain rfl := zso h
    refine zr_lv (lv' := [(0, .ref v0), (1, .ref v1), (2, .int v2), (3, .int v3)]) C [0, 1, 2, 3] rfl ?_
    exact hx _ rfl
  · have h := zif_f hc1 h
    refine zr_aload_n C 0 rfl rfl dX3_takeClashes_10 ?_
    refine zr_get (ci := 3) (k := 3) (v := .ref (F v0 3)) C k0 (by decide) rfl zinX3 (by decide) wd_132 rfl dX3_takeClashes_11 ?_
    refine zr_iload_n C 3 rfl rfl dX3_takeClashes_14 ?_
    refine zr_aload_n C 0 rfl rfl dX3_takeClashes_15 ?_
    refine zr_get (ci := 3) (k := 4) (v := .int (I v0 4)) C k0 (by decide) rfl zinX3 (by decide) wd_133 rfl dX3_takeClashes_16 ?_
    refine zr_iload_n C 3 rfl rfl dX3_takeClashes_19 ?_
    obtain ⟨r2, h3, h⟩ := zb_e h
    refine zr_callNi (n := 2) (As := [.int (I v0 4), .int v3]) C (c_X5_hasBit l D cy hZ (I v0 4) v3 I A h3) C.nb.2 wd_323 wd_1 wd_324 (by decide +kernel) ⟨(Nat.le_trans (Nat.le_of_ble_eq_true rfl) hRf), (Nat.le_trans (Nat.le_of_ble_eq_true rfl) hRl)⟩ rfl rfl hRc rfl rfl (Nat.le_of_ble_eq_true rfl) dX3_takeClashes_20 ?_
    refine zr_if_eq (tgt := 41) C (by decide) dX3_takeClashes_23 (fun hc5 => ?_) (fun hc5 => ?_)
    · have h := zif_t hc5 h
      refine zr_iconst (v := 0) C (by decide) dX3_takeClashes_41 ?_
      obtain ⟨hc6, h⟩ := zck_e h
      refine zr_iast C (zt3 hZ k0 3 (by decide)).1 (zt3 hZ k0 3 (by decide)).2 hc6 dX3_takeClashes_42 ?_
      obtain ⟨A7, eA7, h⟩ := zlet_e h
      rw [← eA7]
      refine zr_iload_n C 2 rfl rfl dX3_takeClashes_43 ?_
      refine zr_aload_n C 0 rfl rfl dX3_takeClashes_44 ?_
      refine zr_get (ci := 3) (k := 3) (v := .ref (F v0 3)) C k0 (by decide) rfl zinX3 (by decide) wd_132 rfl dX3_takeClashes_45 ?_
      refine zr_iload_n C 3 rfl rfl dX3_takeClashes_48 ?_
      obtain ⟨hc8, h⟩ := zck_e h
      refine zr_iald C (zt3 hZ k0 3 (by decide)).1 (zt3 hZ k0 3 (by decide)).2 hc8 dX3_takeClashes_49 ?_
      refine zr_ior C dX3_takeClashes_50 ?_
      refine zr_istore_n (lv' := [(2, .int (v2 ||| (A7 (F v0 3) v3.toNatClampNeg))), (0, .ref v0), (1, .ref v1), (3, .int v3)]) C rfl (by decide) rfl dX3_takeClashes_51 ?_
      refine zr_iinc (v := v3 + 1) (lv' := [(3, .int (v3 + 1)), (2, .int (v2 ||| (A7 (F v0 3) v3.toNatClampNeg))), (0, .ref v0), (1, .ref v1)]) C 3 rfl rfl (by decide) rfl dX3_takeClashes_52 ?_
      refine zr_goto (tgt := 4) C (by decide) dX3_takeClashes_55 ?_
      obtain rfl := zso h
      refine zr_lv (lv' := [(0, .ref v0), (1, .ref v1), (2, .int (v2 ||| (A7 (F v0 3) v3.toNatClampNeg))), (3, .int (v3 + 1))]) C [2, 3, 1, 0] rfl ?_
      exact hg _ rfl
    · have h := zif_f hc5 h
      refine zr_aload_n C 0 rfl rfl dX3_takeClashes_26 ?_
      refine zr_iload_n C 3 rfl rfl dX3_takeClashes_27 ?_
      refine zr_aload_n C 0 rfl rfl dX3_takeClashes_28 ?_
      refine zr_get (ci := 3) (k := 2) (v := .ref (F v0 2)) C k0 (by decide) rfl zinX3 (by decide) wd_130 rfl dX3_takeClashes_29 ?_
      refine zr_iload_n C 3 rfl rfl dX3_takeClashes_32 ?_
      obtain ⟨hc9, h⟩ := zck_e h
      refine zr_iald C (zt3 hZ k0 2 (by decide)).1 (zt3 hZ k0 2 (by decide)).2 hc9 dX3_takeClashes_33 ?_
      refine zr_aload_n C 1 rfl rfl dX3_takeClashes_34 ?_
      obtain ⟨r10, h11, h⟩ := zb_e h
      refine zr_callVi (n := 3) (As := [.int v3, .int (A (F v0 2) v3.toNatClampNeg), .ref v1]) C (c_X3_clashesOf l D cy hZ v0 v3 (A (F v0 2) v3.toNatClampNeg) v1 k0 k1 I A h11) wd_346 wd_347 wd_348 wd_6 wd_349 (by decide +kernel) ⟨(Nat.le_trans (Nat.le_of_ble_eq_true rfl) hRf), (Nat.le_trans (Nat.le_of_ble_eq_true rfl) hRl)⟩ rfl rfl hRc k0 (by decide) rfl rfl rfl (Nat.le_of_ble_eq_true rfl) dX3_takeClashes_35 ?_
      refine zr_goto (tgt := 42) C (by decide) dX3_takeClashes_38 ?_
      obtain ⟨hc13, h⟩ := zck_e h
      refine zr_iast C (zt3 hZ k0 3 (by decide)).1 (zt3 hZ k0 3 (by decide)).2 hc13 dX3_takeClashes_42 ?_
      obtain ⟨A14, eA14, h⟩ := zlet_e h
      rw [← eA14]
      refine zr_iload_n C 2 rfl rfl dX3_takeClashes_43 ?_
      refine zr_aload_n C 0 rfl rfl dX3_takeClashes_44 ?_
      refine zr_get (ci := 3) (k := 3) (v := .ref (F v0 3)) C k0 (by decide) rfl zinX3 (by decide) wd_132 rfl dX3_takeClashes_45 ?_
      refine zr_iload_n C 3 rfl rfl dX3_takeClashes_48 ?_
      obtain ⟨hc15, h⟩ := zck_e h
      refine zr_iald C (zt3 hZ k0 3 (by decide)).1 (zt3 hZ k0 3 (by decide)).2 hc15 dX3_takeClashes_49 ?_
      refine zr_ior C dX3_takeClashes_50 ?_
      refine zr_istore_n (lv' := [(2, .int (v2 ||| (A14 (F v0 3) v3.toNatClampNeg))), (0, .ref v0), (1, .ref v1), (3, .int v3)]) C rfl (by decide) rfl dX3_takeClashes_51 ?_
      refine zr_iinc (v := v3 + 1) (lv' := [(3, .int (v3 + 1)), (2, .int (v2 ||| (A14 (F v0 3) v3.toNatClampNeg))), (0, .ref v0), (1, .ref v1)]) C 3 rfl rfl (by decide) rfl dX3_takeClashes_52 ?_
      refine zr_goto (tgt := 4) C (by decide) dX3_takeClashes_55 ?_
      obtain rfl := zso h
      refine zr_lv (lv' := [(0, .ref v0), (1, .ref v1), (2, .int (v2 ||| (A14 (F v0 3) v3.toNatClampNeg))), (3, .int (v3 + 1))]) C [2, 3, 1, 0] rfl ?_
      exact hg _ rfl
set_option maxHeartbeats 4000000 in
set_option maxRecDepth 100000 in
theorem w_X3_takeClashes_4 (l : Launch) (D : va_G) (cy : Nat → ClassId) {L : List Nat} {K N : Nat → Nat} {F G : Nat → Nat → Nat} (hZ : ZL L K N F G) {p : Program} {e : Env} {R : Room} {s : State} {m : MethodId} {args : Array Value} {below : List Frame} {meth : Method} {c : Code} {cells slots : Nat} {Q : State → Prop} (C : ZC p s m args meth c cX3_takeClashes yX3_takeClashes.cls 4 D cy L K N F G) (hRf : 2 ≤ R.frames) (hRl : 50 ≤ R.locals) (hRc : cells ≤ R.cells ∧ slots ≤ R.slots)  (v0 : Nat) (v1 : Nat) (k0 : K v0 = 3) (k1 : K v1 = 0) (I : zH) (n : Nat) (x : Int32 × Int32 × zH) (o : Int32 × Int32 × zH) (h : zIt (fun x => g_X3_takeClashes_4 F G v0 v1 x.1 x.2.1 x.2.2 I) n x = some o)
    (hx : ZW p l e R s m args below meth c 4 D cy L K N F G cells slots Q I o.2.2 58 [(0, .ref v0), (1, .ref v1), (2, .int o.1), (3, .int o.2.1)] []) : ZW p l e R s m args below meth c 4 D cy L K N F G cells slots Q I x.2.2 4 [(0, .ref v0), (1, .ref v1), (2, .int x.1), (3, .int x.2.1)] [] := by
  induction n generalizing x with
  | zero => cases h
  | succ n ih =>
    unfold zIt at h
    cases hb : g_X3_takeClashes_4 F G v0 v1 x.1 x.2.1 x.2.2 I with
    | none => rw [hb] at h; cases h
    | some q =>
      rw [hb] at h
      refine wb_X3_takeClashes_4 l D cy hZ C hRf hRl hRc v0 v1 k0 k1 I x.1 x.2.1 x.2.2 q hb (fun y hy => ?_) (fun y hy => ?_)
      · subst hy; exact ih y h
      · subst hy; cases h; exact hx
set_option maxHeartbeats 4000000 in
set_option maxRecDepth 100000 in
theorem c_X3_takeClashes (l : Launch) (D : va_G) (cy : Nat → ClassId) {L : List Nat} {K N : Nat → Nat} {F G : Nat → Nat → Nat} (hZ : ZL L K N F G) (h0 : Nat) (r0 : Nat) (k_h0 : K h0 = 3) (k_r0 : K r0 = 0) (I A : zH) {r : Int32} {B' : zH} (h : f_X3_takeClashes F G h0 r0 I A = some (r, B')) : ZMi l yX3_takeClashes cX3_takeClashes 4 (some .int) { frames := 2, cells := 0, slots := 0, locals := 50 } D cy L K N F G [.ref h0, .ref r0] I A r I B' := by
  refine ZMi.of (nL := 4) hZ rfl rfl (by decide) (Nat.le_of_ble_eq_true rfl) (fun p e s m args below meth c C hr => ?_)
  unfold f_X3_takeClashes at h
  refine zr_lv (lv' := [(0, .ref h0), (1, .ref r0)]) C [0, 1] rfl ?_
  refine zr_iconst (v := 0) C (by decide) dX3_takeClashes_0 ?_
  refine zr_istore_n (lv' := [(2, .int 0), (0, .ref h0), (1, .ref r0)]) C rfl (by decide) rfl dX3_takeClashes_1 ?_
  refine zr_iconst (v := 0) C (by decide) dX3_takeClashes_2 ?_
  refine zr_istore_n (lv' := [(3, .int 0), (2, .int 0), (0, .ref h0), (1, .ref r0)]) C rfl (by decide) rfl dX3_takeClashes_3 ?_
  obtain ⟨i1, i2, A3, h4, h⟩ := zb3_e h
  refine zr_lv (lv' := [(0, .ref h0), (1, .ref r0), (2, .int 0), (3, .int 0)]) C [2, 3, 1, 0] rfl ?_
  refine w_X3_takeClashes_4 l D cy hZ C (Nat.le_of_ble_eq_true rfl) (Nat.le_of_ble_eq_true rfl) ⟨Nat.le_refl _, Nat.le_refl _⟩ h0 r0 k_h0 k_r0 I  2000 (0, 0, A) (i1, i2, A3) h4 ?_
  refine zr_iload_n C 2 rfl rfl dX3_takeClashes_58 ?_
  cases zso h
  exact zr_iret C hr dX3_takeClashes_59

def g_X3_leavesNone_2 (F G : Nat → Nat → Nat) (v0 : Nat) (v1 : Int32) (v2 : Int32) (I : zH) (A : zH) : Option ((Int32) ⊕ ((Int32) ⊕ (Int32))) :=
  if 10 ≤ v2 then (
    some (.inr (.inl v2))
  ) else (
    zb (f_X5_hasBit F G v1 v2 I A) fun r2 =>
    if r2 = 0 then (
      zck (¬ (v2 < 0 ∨ 10 ≤ v2.toNatClampNeg)) <|
      if ((A (F v0 3) v2.toNatClampNeg) &&& (v1 ^^^ (-1))) = 0 then (
        some (.inl (v2 + 1))
      ) else (
        some (.inr (.inr 0))
      )
    ) else (
      some (.inl (v2 + 1))
    )
  )
def f_X3_leavesNone (F G : Nat → Nat → Nat) (h0 : Nat) (p0 : Int32) (I A : zH) : Option (Int32) :=
  zs (fun q => q) (zIt (fun x => g_X3_leavesNone_2 F G h0 p0 x I A) 2000 0) fun x3 =>
   some 1
set_option maxHeartbeats 4000000 in
set_option maxRecDepth 100000 in
theorem wb_X3_leavesNone_2 (l : Launch) (D : va_G) (cy : Nat → ClassId) {L : List Nat} {K N : Nat → Nat} {F G : Nat → Nat → Nat} (hZ : ZL L K N F G) {p : Program} {e : Env} {R : Room} {s : State} {m : MethodId} {args : Array Value} {below : List Frame} {meth : Method} {c : Code} {cells slots : Nat} {r : Int32} (C : ZC p s m args meth c cX3_leavesNone yX3_leavesNone.cls 3 D cy L K N F G) (hRf : 1 ≤ R.frames) (hRl : 21 ≤ R.locals) (hRc : cells ≤ R.cells ∧ slots ≤ R.slots) (hr : meth.sig.returnType = (some .boolean)) (v0 : Nat) (v1 : Int32) (k0 : K v0 = 3) (I : zH) (A : zH) (v2 : Int32) (o : (Int32) ⊕ ((Int32) ⊕ (Int32))) (h : g_X3_leavesNone_2 F G v0 v1 v2 I A = some o)
    (hg : ∀ y : Int32, o = .inl y → ZW p l e R s m args below meth c 3 D cy L K N F G cells slots (MQ below (va_Qi (fun x (_ : Unit) => x = r) (fun _ t => zPost D cy L K N F G I A t) (zA L s.heap.size)) args s cells slots (zA L s.heap.size)) I A 2 [(0, .ref v0), (1, .int v1), (2, .int y)] [])
    (hx : ∀ y : Int32, o = .inr (.inl y) → ZW p l e R s m args below meth c 3 D cy L K N F G cells slots (MQ below (va_Qi (fun x (_ : Unit) => x = r) (fun _ t => zPost D cy L K N F G I A t) (zA L s.heap.size)) args s cells slots (zA L s.heap.size)) I A 37 [(0, .ref v0), (1, .int v1), (2, .int y)] [])
    (hX : ∀ y : Int32, o = .inr (.inr y) → y = r) : ZW p l e R s m args below meth c 3 D cy L K N F G cells slots (MQ below (va_Qi (fun x (_ : Unit) => x = r) (fun _ t => zPost D cy L K N F G I A t) (zA L s.heap.size)) args s cells slots (zA L s.heap.size)) I A 2 [(0, .ref v0), (1, .int v1), (2, .int v2)] [] := by
  unfold g_X3_leavesNone_2 at h
  refine zr_iload_n C 2 rfl rfl dX3_leavesNone_2 ?_
  refine zr_bipush (v := 10) C (by decide) dX3_leavesNone_3 ?_
  refine zr_icmp_ge (tgt := 37) C (by decide) dX3_leavesNone_5 (fun hc1 => ?_) (fun hc1 => ?_)
  · have h := zif_t hc1 h
    obtain rfl := zso h
    refine zr_lv (lv' := [(0, .ref v0), (1, .int v1), (2, .int v2)]) C [0, 1, 2] rfl ?_
    exact hx _ rfl
  · have h := zif_f hc1 h
    refine zr_iload_n C 1 rfl rfl dX3_leavesNone_8 ?_
    refine zr_iload_n C 2 rfl rfl dX3_leavesNone_9 ?_
    obtain ⟨r2, h3, h⟩ := zb_e h
    refine zr_callNi (n := 2) (As := [.int v1, .int v2]) C (c_X5_hasBit l D cy hZ v1 v2 I A h3) C.nb.2 wd_323 wd_1 wd_324 (by decide +kernel) ⟨(Nat.le_trans (Nat.le_of_ble_eq_true rfl) hRf), (Nat.le_trans (Nat.le_of_ble_eq_true rfl) hRl)⟩ rfl rfl hRc rfl rfl (Nat.le_of_ble_eq_true rfl) dX3_leavesNone_10 ?_
    refine zr_if_ne (tgt := 31) C (by decide) dX3_leavesNone_13 (fun hc5 => ?_) (fun hc5 => ?_)
    · have h := zif_f hc5 h
      refine zr_iinc (v := v2 + 1) (lv' := [(2, .int (v2 + 1)), (0, .ref v0), (1, .int v1)]) C 2 rfl rfl (by decide) rfl dX3_leavesNone_31 ?_
      refine zr_goto (tgt := 2) C (by decide) dX3_leavesNone_34 ?_
      obtain rfl := zso h
      refine zr_lv (lv' := [(0, .ref v0), (1, .int v1), (2, .int (v2 + 1))]) C [1, 2, 0] rfl ?_
      exact hg _ rfl
    · have h := zif_t hc5 h
      refine zr_aload_n C 0 rfl rfl dX3_leavesNone_16 ?_
      refine zr_get (ci := 3) (k := 3) (v := .ref (F v0 3)) C k0 (by decide) rfl zinX3 (by decide) wd_132 rfl dX3_leavesNone_17 ?_
      refine zr_iload_n C 2 rfl rfl dX3_leavesNone_20 ?_
      obtain ⟨hc6, h⟩ := zck_e h
      refine zr_iald C (zt3 hZ k0 3 (by decide)).1 (zt3 hZ k0 3 (by decide)).2 hc6 dX3_leavesNone_21 ?_
      refine zr_iload_n C 1 rfl rfl dX3_leavesNone_22 ?_
      refine zr_iconst (v := (-1)) C (by decide) dX3_leavesNone_23 ?_
      refine zr_ixor C dX3_leavesNone_24 ?_
      refine zr_iand C dX3_leavesNone_25 ?_
      refine zr_if_eq (tgt := 31) C (by decide) dX3_leavesNone_26 (fun hc7 => ?_) (fun hc7 => ?_)
      · have h := zif_t hc7 h
        refine zr_iinc (v := v2 + 1) (lv' := [(2, .int (v2 + 1)), (0, .ref v0), (1, .int v1)]) C 2 rfl rfl (by decide) rfl dX3_leavesNone_31 ?_
        refine zr_goto (tgt := 2) C (by decide) dX3_leavesNone_34 ?_
        obtain rfl := zso h
        refine zr_lv (lv' := [(0, .ref v0), (1, .int v1), (2, .int (v2 + 1))]) C [1, 2, 0] rfl ?_
        exact hg _ rfl
      · have h := zif_f hc7 h
        refine zr_iconst (v := 0) C (by decide) dX3_leavesNone_29 ?_
        obtain rfl := zso h
        obtain rfl := hX _ rfl
        exact zr_zret C hr rfl dX3_leavesNone_30
set_option maxHeartbeats 4000000 in
set_option maxRecDepth 100000 in
theorem w_X3_leavesNone_2 (l : Launch) (D : va_G) (cy : Nat → ClassId) {L : List Nat} {K N : Nat → Nat} {F G : Nat → Nat → Nat} (hZ : ZL L K N F G) {p : Program} {e : Env} {R : Room} {s : State} {m : MethodId} {args : Array Value} {below : List Frame} {meth : Method} {c : Code} {cells slots : Nat} {r : Int32} (C : ZC p s m args meth c cX3_leavesNone yX3_leavesNone.cls 3 D cy L K N F G) (hRf : 1 ≤ R.frames) (hRl : 21 ≤ R.locals) (hRc : cells ≤ R.cells ∧ slots ≤ R.slots) (hr : meth.sig.returnType = (some .boolean)) (v0 : Nat) (v1 : Int32) (k0 : K v0 = 3) (I : zH) (A : zH) (n : Nat) (x : Int32) (o : (Int32) ⊕ (Int32)) (h : zIt (fun x => g_X3_leavesNone_2 F G v0 v1 x I A) n x = some o)
    (hx : ∀ y : Int32, o = .inl y → ZW p l e R s m args below meth c 3 D cy L K N F G cells slots (MQ below (va_Qi (fun x (_ : Unit) => x = r) (fun _ t => zPost D cy L K N F G I A t) (zA L s.heap.size)) args s cells slots (zA L s.heap.size)) I A 37 [(0, .ref v0), (1, .int v1), (2, .int y)] []) (hX : ∀ y : Int32, o = .inr y → y = r) : ZW p l e R s m args below meth c 3 D cy L K N F G cells slots (MQ below (va_Qi (fun x (_ : Unit) => x = r) (fun _ t => zPost D cy L K N F G I A t) (zA L s.heap.size)) args s cells slots (zA L s.heap.size)) I A 2 [(0, .ref v0), (1, .int v1), (2, .int x)] [] := by
  induction n generalizing x with
  | zero => cases h
  | succ n ih =>
    unfold zIt at h
    cases hb : g_X3_leavesNone_2 F G v0 v1 x I A with
    | none => rw [hb] at h; cases h
    | some q =>
      rw [hb] at h
      refine wb_X3_leavesNone_2 l D cy hZ C hRf hRl hRc hr v0 v1 k0 I A x q hb (fun y hy => ?_) (fun y hy => ?_) (fun y hy => ?_)
      · subst hy; exact ih y h
      · subst hy; cases h; exact hx y rfl
      · subst hy; cases h; exact hX y rfl
set_option maxHeartbeats 4000000 in
set_option maxRecDepth 100000 in
theorem c_X3_leavesNone (l : Launch) (D : va_G) (cy : Nat → ClassId) {L : List Nat} {K N : Nat → Nat} {F G : Nat → Nat → Nat} (hZ : ZL L K N F G) (h0 : Nat) (p0 : Int32) (k_h0 : K h0 = 3) (I A : zH) {r : Int32} (h : f_X3_leavesNone F G h0 p0 I A = some r) : ZMi l yX3_leavesNone cX3_leavesNone 3 (some .boolean) { frames := 1, cells := 0, slots := 0, locals := 21 } D cy L K N F G [.ref h0, .int p0] I A r I A := by
  refine ZMi.of (nL := 3) hZ rfl rfl (by decide) (Nat.le_of_ble_eq_true rfl) (fun p e s m args below meth c C hr => ?_)
  unfold f_X3_leavesNone at h
  refine zr_lv (lv' := [(0, .ref h0), (1, .int p0)]) C [0, 1] rfl ?_
  refine zr_iconst (v := 0) C (by decide) dX3_leavesNone_0 ?_
  refine zr_istore_n (lv' := [(2, .int 0), (0, .ref h0), (1, .int p0)]) C rfl (by decide) rfl dX3_leavesNone_1 ?_
  refine zr_lv (lv' := [(0, .ref h0), (1, .int p0), (2, .int 0)]) C [1, 2, 0] rfl ?_
  obtain ⟨x3, h2, h⟩ | ⟨x3, h2, h⟩ := zs_e h
  · refine w_X3_leavesNone_2 l D cy hZ C (Nat.le_of_ble_eq_true rfl) (Nat.le_of_ble_eq_true rfl) ⟨Nat.le_refl _, Nat.le_refl _⟩ hr h0 p0 k_h0 I A 2000 0 (.inl x3) h2 (fun y hy => ?_) (fun q hq => by cases hq)
    cases hy
    obtain ⟨i1, rfl⟩ : ∃ z, z = x3 := ⟨_, rfl⟩
    refine zr_iconst (v := 1) C (by decide) dX3_leavesNone_37 ?_
    obtain rfl := zso h
    exact zr_zret C hr rfl dX3_leavesNone_38
  · refine w_X3_leavesNone_2 l D cy hZ C (Nat.le_of_ble_eq_true rfl) (Nat.le_of_ble_eq_true rfl) ⟨Nat.le_refl _, Nat.le_refl _⟩ hr h0 p0 k_h0 I A 2000 0 (.inr x3) h2 (fun y hy => by cases hy) (fun q hq => ?_)
    cases hq
    exact h
end
section
def g_X3_fewestToEmpty_11 (F G : Nat → Nat → Nat) (v0 : Nat) (v2 : Int32) (v3 : Int32) (v4 : Int32) (I : zH) (A : zH) : Option ((Int32 × Int32) ⊕ (Int32 × Int32)) :=
  if v2 ≤ v4 then (
    some (.inr (v3, v4))
  ) else (
    if (v4 &&& (v2 ^^^ (-1))) = 0 then (
      zb (f_J6_bitCount_0f7a4 F G v4 I A) fun r3 =>
      zb (f_J6_bitCount_0f7a4 F G v3 I A) fun r6 =>
      if r6 ≤ r3 then (
        some (.inl (v3, v4 + 1))
      ) else (
        zb (f_X3_leavesNone F G v0 v4 I A) fun r10 =>
        if r10 = 0 then (
          some (.inl (v3, v4 + 1))
        ) else (
          some (.inl (v4, v4 + 1))
        )
      )
    ) else (
      some (.inl (v3, v4 + 1))
    )
  )
def f_X3_fewestToEmpty (F G : Nat → Nat → Nat) (h0 : Nat) (r0 : Nat) (I A : zH) : Option (Int32 × zH) :=
  zb2 (f_X3_takeClashes F G h0 r0 I A) fun r1 A2 =>
  zb2 (zIt (fun x => g_X3_fewestToEmpty_11 F G h0 r1 x.1 x.2 I A2) 2000 (r1, 0)) fun i5 i6 =>
  some (i5, A2)
set_option maxHeartbeats 4000000 in
set_option maxRecDepth 100000 in
theorem wb_X3_fewestToEmpty_11 (l : Launch) (D : va_G) (cy : Nat → ClassId) {L : List Nat} {K N : Nat → Nat} {F G : Nat → Nat → Nat} (hZ : ZL L K N F G) {p : Program} {e : Env} {R : Room} {s : State} {m : MethodId} {args : Array Value} {below : List Frame} {meth : Method} {c : Code} {cells slots : Nat} {Q : State → Prop} (C : ZC p s m args meth c cX3_fewestToEmpty yX3_fewestToEmpty.cls 6 D cy L K N F G) (hRf : 2 ≤ R.frames) (hRl : 43 ≤ R.locals) (hRc : cells ≤ R.cells ∧ slots ≤ R.slots)  (v0 : Nat) (v2 : Int32) (k0 : K v0 = 3) (I : zH) (A : zH) (v3 : Int32) (v4 : Int32) (o : (Int32 × Int32) ⊕ (Int32 × Int32)) (h : g_X3_fewestToEmpty_11 F G v0 v2 v3 v4 I A = some o)
    (hg : ∀ y : Int32 × Int32, o = .inl y → ZW p l e R s m args below meth c 6 D cy L K N F G cells slots Q I A 11 [(0, .ref v0), (2, .int v2), (3, .int y.1), (4, .int y.2)] [])
    (hx : ∀ y : Int32 × Int32, o = .inr y → ZW p l e R s m args below meth c 6 D cy L K N F G cells slots Q I A 68 [(0, .ref v0), (2, .int v2), (3, .int y.1), (4, .int y.2)] []) : ZW p l e R s m args below meth c 6 D cy L K N F G cells slots Q I A 11 [(0, .ref v0), (2, .int v2), (3, .int v3), (4, .int v4)] [] := by
  unfold g_X3_fewestToEmpty_11 at h
  refine zr_iload C 3 rfl dX3_fewestToEmpty_11 ?_
  refine zr_iload_n C 1 rfl rfl dX3_fewestToEmpty_13 ?_
  refine zr_icmp_ge (tgt := 68) C (by decide) dX3_fewestToEmpty_14 (fun hc1 => ?_) (fun hc1 => ?_)
  · have h := zif_t hc1 h
    obtain rfl := zso h
    refine zr_lv (lv' := [(0, .ref v0), (2, .int v2), (3, .int v3), (4, .int v4)]) C [0, 1, 2, 3] rfl ?_
    exact hx _ rfl
  · have h := zif_f hc1 h
    refine zr_iload C 3 rfl dX3_fewestToEmpty_17 ?_
    refine zr_iload_n C 1 rfl rfl dX3_fewestToEmpty_19 ?_
    refine zr_iconst (v := (-1)) C (by decide) dX3_fewestToEmpty_20 ?_
    refine zr_ixor C dX3_fewestToEmpty_21 ?_
    refine zr_iand C dX3_fewestToEmpty_22 ?_
    refine zr_if_ne (tgt := 30) C (by decide) dX3_fewestToEmpty_23 (fun hc2 => ?_) (fun hc2 => ?_)
    · have h := zif_f hc2 h
      refine zr_iconst (v := 0) C (by decide) dX3_fewestToEmpty_30 ?_
      refine zr_istore (lv' := [(5, .int 0), (0, .ref v0), (2, .int v2), (3, .int v3), (4, .int v4)]) C (by decide) rfl dX3_fewestToEmpty_31 ?_
      refine zr_iload C 0 rfl dX3_fewestToEmpty_33 ?_
      refine zr_if_eq (tgt := 62) C (by decide) dX3_fewestToEmpty_35 (fun _ => ?_) (fun hc => absurd hc (by decide))
      refine zr_iinc (v := v4 + 1) (lv' := [(4, .int (v4 + 1)), (5, .int 0), (0, .ref v0), (2, .int v2), (3, .int v3)]) C 4 rfl rfl (by decide) rfl dX3_fewestToEmpty_62 ?_
      refine zr_goto (tgt := 11) C (by decide) dX3_fewestToEmpty_65 ?_
      obtain rfl := zso h
      refine zr_lv (lv' := [(0, .ref v0), (2, .int v2), (3, .int v3), (4, .int (v4 + 1))]) C [2, 3, 4, 0] rfl ?_
      exact hg _ rfl
    · have h := zif_t hc2 h
      refine zr_iconst (v := 1) C (by decide) dX3_fewestToEmpty_26 ?_
      refine zr_goto (tgt := 31) C (by decide) dX3_fewestToEmpty_27 ?_
      refine zr_istore (lv' := [(5, .int 1), (0, .ref v0), (2, .int v2), (3, .int v3), (4, .int v4)]) C (by decide) rfl dX3_fewestToEmpty_31 ?_
      refine zr_iload C 0 rfl dX3_fewestToEmpty_33 ?_
      refine zr_if_eq (tgt := 62) C (by decide) dX3_fewestToEmpty_35 (fun hc => absurd hc (by decide)) (fun _ => ?_)
      refine zr_iload C 4 rfl dX3_fewestToEmpty_38 ?_
      obtain ⟨r3, h4, h⟩ := zb_e h
      refine zr_callSi (n := 1) (As := [.int v4]) C (c_J6_bitCount_0f7a4 l D cy hZ v4 I A h4) wd_358 wd_359 wd_12 wd_360 (by decide +kernel) ⟨(Nat.le_trans (Nat.le_of_ble_eq_true rfl) hRf), (Nat.le_trans (Nat.le_of_ble_eq_true rfl) hRl)⟩ rfl rfl hRc rfl rfl (Nat.le_of_ble_eq_true rfl) dX3_fewestToEmpty_40 ?_
      refine zr_iload_n C 3 rfl rfl dX3_fewestToEmpty_43 ?_
      obtain ⟨r6, h7, h⟩ := zb_e h
      refine zr_callSi (n := 1) (As := [.int v3]) C (c_J6_bitCount_0f7a4 l D cy hZ v3 I A h7) wd_358 wd_359 wd_12 wd_360 (by decide +kernel) ⟨(Nat.le_trans (Nat.le_of_ble_eq_true rfl) hRf), (Nat.le_trans (Nat.le_of_ble_eq_true rfl) hRl)⟩ rfl rfl hRc rfl rfl (Nat.le_of_ble_eq_true rfl) dX3_fewestToEmpty_44 ?_
      refine zr_icmp_ge (tgt := 62) C (by decide) dX3_fewestToEmpty_47 (fun hc9 => ?_) (fun hc9 => ?_)
      · have h := zif_t hc9 h
        refine zr_iinc (v := v4 + 1) (lv' := [(4, .int (v4 + 1)), (5, .int 1), (0, .ref v0), (2, .int v2), (3, .int v3)]) C 4 rfl rfl (by decide) rfl dX3_fewestToEmpty_62 ?_
        refine zr_goto (tgt := 11) C (by decide) dX3_fewestToEmpty_65 ?_
        obtain rfl := zso h
        refine zr_lv (lv' := [(0, .ref v0), (2, .int v2), (3, .int v3), (4, .int (v4 + 1))]) C [2, 3, 4, 0] rfl ?_
        exact hg _ rfl
      · have h := zif_f hc9 h
        refine zr_aload_n C 1 rfl rfl dX3_fewestToEmpty_50 ?_
        refine zr_iload C 4 rfl dX3_fewestToEmpty_51 ?_
        obtain ⟨r10, h11, h⟩ := zb_e h
        refine zr_callVi (n := 1) (As := [.int v4]) C (c_X3_leavesNone l D cy hZ v0 v4 k0 I A h11) wd_582 wd_584 wp_22 wd_6 wd_585 (by decide +kernel) ⟨(Nat.le_trans (Nat.le_of_ble_eq_true rfl) hRf), (Nat.le_trans (Nat.le_of_ble_eq_true rfl) hRl)⟩ rfl rfl hRc k0 (by decide) rfl rfl rfl (Nat.le_of_ble_eq_true rfl) dX3_fewestToEmpty_53 ?_
        refine zr_if_eq (tgt := 62) C (by decide) dX3_fewestToEmpty_56 (fun hc13 => ?_) (fun hc13 => ?_)
        · have h := zif_t hc13 h
          refine zr_iinc (v := v4 + 1) (lv' := [(4, .int (v4 + 1)), (5, .int 1), (0, .ref v0), (2, .int v2), (3, .int v3)]) C 4 rfl rfl (by decide) rfl dX3_fewestToEmpty_62 ?_
          refine zr_goto (tgt := 11) C (by decide) dX3_fewestToEmpty_65 ?_
          obtain rfl := zso h
          refine zr_lv (lv' := [(0, .ref v0), (2, .int v2), (3, .int v3), (4, .int (v4 + 1))]) C [2, 3, 4, 0] rfl ?_
          exact hg _ rfl
        · have h := zif_f hc13 h
          refine zr_iload C 4 rfl dX3_fewestToEmpty_59 ?_
          refine zr_istore_n (lv' := [(3, .int v4), (5, .int 1), (0, .ref v0), (2, .int v2), (4, .int v4)]) C rfl (by decide) rfl dX3_fewestToEmpty_61 ?_
          refine zr_iinc (v := v4 + 1) (lv' := [(4, .int (v4 + 1)), (3, .int v4), (5, .int 1), (0, .ref v0), (2, .int v2)]) C 4 rfl rfl (by decide) rfl dX3_fewestToEmpty_62 ?_
          refine zr_goto (tgt := 11) C (by decide) dX3_fewestToEmpty_65 ?_
          obtain rfl := zso h
          refine zr_lv (lv' := [(0, .ref v0), (2, .int v2), (3, .int v4), (4, .int (v4 + 1))]) C [3, 4, 1, 0] rfl ?_
          exact hg _ rfl
set_option maxHeartbeats 4000000 in
set_option maxRecDepth 100000 in
theorem w_X3_fewestToEmpty_11 (l : Launch) (D : va_G) (cy : Nat → ClassId) {L : List Nat} {K N : Nat → Nat} {F G : Nat → Nat → Nat} (hZ : ZL L K N F G) {p : Program} {e : Env} {R : Room} {s : State} {m : MethodId} {args : Array Value} {below : List Frame} {meth : Method} {c : Code} {cells slots : Nat} {Q : State → Prop} (C : ZC p s m args meth c cX3_fewestToEmpty yX3_fewestToEmpty.cls 6 D cy L K N F G) (hRf : 2 ≤ R.frames) (hRl : 43 ≤ R.locals) (hRc : cells ≤ R.cells ∧ slots ≤ R.slots)  (v0 : Nat) (v2 : Int32) (k0 : K v0 = 3) (I : zH) (A : zH) (n : Nat) (x : Int32 × Int32) (o : Int32 × Int32) (h : zIt (fun x => g_X3_fewestToEmpty_11 F G v0 v2 x.1 x.2 I A) n x = some o)
    (hx : ZW p l e R s m args below meth c 6 D cy L K N F G cells slots Q I A 68 [(0, .ref v0), (2, .int v2), (3, .int o.1), (4, .int o.2)] []) : ZW p l e R s m args below meth c 6 D cy L K N F G cells slots Q I A 11 [(0, .ref v0), (2, .int v2), (3, .int x.1), (4, .int x.2)] [] := by
  induction n generalizing x with
  | zero => cases h
  | succ n ih =>
    unfold zIt at h
    cases hb : g_X3_fewestToEmpty_11 F G v0 v2 x.1 x.2 I A with
    | none => rw [hb] at h; cases h
    | some q =>
      rw [hb] at h
      refine wb_X3_fewestToEmpty_11 l D cy hZ C hRf hRl hRc v0 v2 k0 I A x.1 x.2 q hb (fun y hy => ?_) (fun y hy => ?_)
      · subst hy; exact ih y h
      · subst hy; cases h; exact hx
set_option maxHeartbeats 4000000 in
set_option maxRecDepth 100000 in
theorem c_X3_fewestToEmpty (l : Launch) (D : va_G) (cy : Nat → ClassId) {L : List Nat} {K N : Nat → Nat} {F G : Nat → Nat → Nat} (hZ : ZL L K N F G) (h0 : Nat) (r0 : Nat) (k_h0 : K h0 = 3) (k_r0 : K r0 = 0) (I A : zH) {r : Int32} {B' : zH} (h : f_X3_fewestToEmpty F G h0 r0 I A = some (r, B')) : ZMi l yX3_fewestToEmpty cX3_fewestToEmpty 6 (some .int) { frames := 3, cells := 0, slots := 0, locals := 73 } D cy L K N F G [.ref h0, .ref r0] I A r I B' := by
  refine ZMi.of (nL := 6) hZ rfl rfl (by decide) (Nat.le_of_ble_eq_true rfl) (fun p e s m args below meth c C hr => ?_)
  unfold f_X3_fewestToEmpty at h
  refine zr_lv (lv' := [(0, .ref h0), (1, .ref r0)]) C [0, 1] rfl ?_
  refine zr_aload_n C 0 rfl rfl dX3_fewestToEmpty_0 ?_
  refine zr_aload_n C 1 rfl rfl dX3_fewestToEmpty_1 ?_
  obtain ⟨r1, A2, h3, h⟩ := zb2_e h
  refine zr_callVi (n := 1) (As := [.ref r0]) C (c_X3_takeClashes l D cy hZ h0 r0 k_h0 k_r0 I A h3) wd_578 wd_580 wp_21 wd_6 wd_581 (by decide +kernel) ⟨(Nat.le_of_ble_eq_true rfl), (Nat.le_of_ble_eq_true rfl)⟩ rfl rfl ⟨Nat.le_refl _, Nat.le_refl _⟩ k_h0 (by decide) rfl rfl rfl (Nat.le_of_ble_eq_true rfl) dX3_fewestToEmpty_2 ?_
  refine zr_istore_n (lv' := [(2, .int r1), (0, .ref h0), (1, .ref r0)]) C rfl (by decide) rfl dX3_fewestToEmpty_5 ?_
  refine zr_iload_n C 0 rfl rfl dX3_fewestToEmpty_6 ?_
  refine zr_istore_n (lv' := [(3, .int r1), (2, .int r1), (0, .ref h0), (1, .ref r0)]) C rfl (by decide) rfl dX3_fewestToEmpty_7 ?_
  refine zr_iconst (v := 0) C (by decide) dX3_fewestToEmpty_8 ?_
  refine zr_istore (lv' := [(4, .int 0), (3, .int r1), (2, .int r1), (0, .ref h0), (1, .ref r0)]) C (by decide) rfl dX3_fewestToEmpty_9 ?_
  obtain ⟨i5, i6, h7, h⟩ := zb2_e h
  refine zr_lv (lv' := [(0, .ref h0), (2, .int r1), (3, .int r1), (4, .int 0)]) C [3, 2, 1, 0] rfl ?_
  refine w_X3_fewestToEmpty_11 l D cy hZ C (Nat.le_of_ble_eq_true rfl) (Nat.le_of_ble_eq_true rfl) ⟨Nat.le_refl _, Nat.le_refl _⟩ h0 r1 k_h0 I A2 2000 (r1, 0) (i5, i6) h7 ?_
  refine zr_iload_n C 2 rfl rfl dX3_fewestToEmpty_68 ?_
  cases zso h
  exact zr_iret C hr dX3_fewestToEmpty_69

def f_X3_hasNode (F G : Nat → Nat → Nat) (h0 : Nat) (p0 : Int32) (I A : zH) : Option (Int32) :=
  if p0 < 0 then (
    some 0
  ) else (
    if 10 ≤ p0 then (
      some 0
    ) else (
      zb (f_X5_hasBit F G (I h0 4) p0 I A) fun r3 =>
      if r3 = 0 then (
        some 0
      ) else (
        some 1
      )
    )
  )
set_option maxHeartbeats 4000000 in
set_option maxRecDepth 100000 in
theorem c_X3_hasNode (l : Launch) (D : va_G) (cy : Nat → ClassId) {L : List Nat} {K N : Nat → Nat} {F G : Nat → Nat → Nat} (hZ : ZL L K N F G) (h0 : Nat) (p0 : Int32) (k_h0 : K h0 = 3) (I A : zH) {r : Int32} (h : f_X3_hasNode F G h0 p0 I A = some r) : ZMi l yX3_hasNode cX3_hasNode 2 (some .boolean) { frames := 1, cells := 0, slots := 0, locals := 21 } D cy L K N F G [.ref h0, .int p0] I A r I A := by
  refine ZMi.of (nL := 2) hZ rfl rfl (by decide) (Nat.le_of_ble_eq_true rfl) (fun p e s m args below meth c C hr => ?_)
  unfold f_X3_hasNode at h
  refine zr_lv (lv' := [(0, .ref h0), (1, .int p0)]) C [0, 1] rfl ?_
  refine zr_iload_n C 1 rfl rfl dX3_hasNode_0 ?_
  refine zr_if_lt (tgt := 25) C (by decide) dX3_hasNode_1 (fun hc1 => ?_) (fun hc1 => ?_)
  · have h := zif_t hc1 h
    refine zr_iconst (v := 0) C (by decide) dX3_hasNode_25 ?_
    obtain rfl := zso h
    exact zr_zret C hr rfl dX3_hasNode_26
  · have h := zif_f hc1 h
    refine zr_iload_n C 1 rfl rfl dX3_hasNode_4 ?_
    refine zr_bipush (v := 10) C (by decide) dX3_hasNode_5 ?_
    refine zr_icmp_ge (tgt := 25) C (by decide) dX3_hasNode_7 (fun hc2 => ?_) (fun hc2 => ?_)
    · have h := zif_t hc2 h
      refine zr_iconst (v := 0) C (by decide) dX3_hasNode_25 ?_
      obtain rfl := zso h
      exact zr_zret C hr rfl dX3_hasNode_26
    · have h := zif_f hc2 h
      refine zr_aload_n C 0 rfl rfl dX3_hasNode_10 ?_
      refine zr_get (ci := 3) (k := 4) (v := .int (I h0 4)) C k_h0 (by decide) rfl zinX3 (by decide) wd_133 rfl dX3_hasNode_11 ?_
      refine zr_iload_n C 1 rfl rfl dX3_hasNode_14 ?_
      obtain ⟨r3, h4, h⟩ := zb_e h
      refine zr_callNi (n := 2) (As := [.int (I h0 4), .int p0]) C (c_X5_hasBit l D cy hZ (I h0 4) p0 I A h4) C.nb.2 wd_323 wd_1 wd_324 (by decide +kernel) ⟨(Nat.le_of_ble_eq_true rfl), (Nat.le_of_ble_eq_true rfl)⟩ rfl rfl ⟨Nat.le_refl _, Nat.le_refl _⟩ rfl rfl (Nat.le_of_ble_eq_true rfl) dX3_hasNode_15 ?_
      refine zr_if_eq (tgt := 25) C (by decide) dX3_hasNode_18 (fun hc6 => ?_) (fun hc6 => ?_)
      · have h := zif_t hc6 h
        refine zr_iconst (v := 0) C (by decide) dX3_hasNode_25 ?_
        obtain rfl := zso h
        exact zr_zret C hr rfl dX3_hasNode_26
      · have h := zif_f hc6 h
        refine zr_iconst (v := 1) C (by decide) dX3_hasNode_21 ?_
        refine zr_goto (tgt := 26) C (by decide) dX3_hasNode_22 ?_
        obtain rfl := zso h
        exact zr_zret C hr rfl dX3_hasNode_26

def f_X3_isInOrder (F G : Nat → Nat → Nat) (h0 : Nat) (r0 : Nat) (I A : zH) : Option (Int32) :=
  zb (f_X3_duties F G h0 r0 I A) fun r1 =>
  if r1 = 0 then (
    zb (f_X3_countClashes F G h0 r0 I A) fun r5 =>
    if r5 = 0 then (
      some 1
    ) else (
      some 0
    )
  ) else (
    some 0
  )
set_option maxHeartbeats 4000000 in
set_option maxRecDepth 100000 in
theorem c_X3_isInOrder (l : Launch) (D : va_G) (cy : Nat → ClassId) {L : List Nat} {K N : Nat → Nat} {F G : Nat → Nat → Nat} (hZ : ZL L K N F G) (h0 : Nat) (r0 : Nat) (k_h0 : K h0 = 3) (k_r0 : K r0 = 0) (I A : zH) {r : Int32} (h : f_X3_isInOrder F G h0 r0 I A = some r) : ZMi l yX3_isInOrder cX3_isInOrder 2 (some .boolean) { frames := 3, cells := 0, slots := 0, locals := 74 } D cy L K N F G [.ref h0, .ref r0] I A r I A := by
  refine ZMi.of (nL := 2) hZ rfl rfl (by decide) (Nat.le_of_ble_eq_true rfl) (fun p e s m args below meth c C hr => ?_)
  unfold f_X3_isInOrder at h
  refine zr_lv (lv' := [(0, .ref h0), (1, .ref r0)]) C [0, 1] rfl ?_
  refine zr_aload_n C 0 rfl rfl dX3_isInOrder_0 ?_
  refine zr_aload_n C 1 rfl rfl dX3_isInOrder_1 ?_
  obtain ⟨r1, h2, h⟩ := zb_e h
  refine zr_callVi (n := 1) (As := [.ref r0]) C (c_X3_duties l D cy hZ h0 r0 k_h0 k_r0 I A h2) wd_333 wd_334 wd_335 wd_6 wd_336 (by decide +kernel) ⟨(Nat.le_of_ble_eq_true rfl), (Nat.le_of_ble_eq_true rfl)⟩ rfl rfl ⟨Nat.le_refl _, Nat.le_refl _⟩ k_h0 (by decide) rfl rfl rfl (Nat.le_of_ble_eq_true rfl) dX3_isInOrder_2 ?_
  refine zr_if_ne (tgt := 20) C (by decide) dX3_isInOrder_5 (fun hc4 => ?_) (fun hc4 => ?_)
  · have h := zif_f hc4 h
    refine zr_iconst (v := 0) C (by decide) dX3_isInOrder_20 ?_
    obtain rfl := zso h
    exact zr_zret C hr rfl dX3_isInOrder_21
  · have h := zif_t hc4 h
    refine zr_aload_n C 0 rfl rfl dX3_isInOrder_8 ?_
    refine zr_aload_n C 1 rfl rfl dX3_isInOrder_9 ?_
    obtain ⟨r5, h6, h⟩ := zb_e h
    refine zr_callVi (n := 1) (As := [.ref r0]) C (c_X3_countClashes l D cy hZ h0 r0 k_h0 k_r0 I A h6) wd_342 wd_343 wd_344 wd_6 wd_345 (by decide +kernel) ⟨(Nat.le_of_ble_eq_true rfl), (Nat.le_of_ble_eq_true rfl)⟩ rfl rfl ⟨Nat.le_refl _, Nat.le_refl _⟩ k_h0 (by decide) rfl rfl rfl (Nat.le_of_ble_eq_true rfl) dX3_isInOrder_10 ?_
    refine zr_if_ne (tgt := 20) C (by decide) dX3_isInOrder_13 (fun hc8 => ?_) (fun hc8 => ?_)
    · have h := zif_f hc8 h
      refine zr_iconst (v := 0) C (by decide) dX3_isInOrder_20 ?_
      obtain rfl := zso h
      exact zr_zret C hr rfl dX3_isInOrder_21
    · have h := zif_t hc8 h
      refine zr_iconst (v := 1) C (by decide) dX3_isInOrder_16 ?_
      refine zr_goto (tgt := 21) C (by decide) dX3_isInOrder_17 ?_
      obtain rfl := zso h
      exact zr_zret C hr rfl dX3_isInOrder_21

def f_X3_isRecalledUnder (F G : Nat → Nat → Nat) (h0 : Nat) (r0 : Nat) (I A : zH) : Option (Int32) :=
  if (I h0 6) = 1 then (
    zb (f_X3_isInOrder F G h0 r0 I A) fun r2 =>
    if r2 = 0 then (
      some 1
    ) else (
      some 0
    )
  ) else (
    some 0
  )
set_option maxHeartbeats 4000000 in
set_option maxRecDepth 100000 in
theorem c_X3_isRecalledUnder (l : Launch) (D : va_G) (cy : Nat → ClassId) {L : List Nat} {K N : Nat → Nat} {F G : Nat → Nat → Nat} (hZ : ZL L K N F G) (h0 : Nat) (r0 : Nat) (k_h0 : K h0 = 3) (k_r0 : K r0 = 0) (I A : zH) {r : Int32} (h : f_X3_isRecalledUnder F G h0 r0 I A = some r) : ZMi l yX3_isRecalledUnder cX3_isRecalledUnder 2 (some .boolean) { frames := 4, cells := 0, slots := 0, locals := 95 } D cy L K N F G [.ref h0, .ref r0] I A r I A := by
  refine ZMi.of (nL := 2) hZ rfl rfl (by decide) (Nat.le_of_ble_eq_true rfl) (fun p e s m args below meth c C hr => ?_)
  unfold f_X3_isRecalledUnder at h
  refine zr_lv (lv' := [(0, .ref h0), (1, .ref r0)]) C [0, 1] rfl ?_
  refine zr_aload_n C 0 rfl rfl dX3_isRecalledUnder_0 ?_
  refine zr_get (ci := 3) (k := 6) (v := .int (I h0 6)) C k_h0 (by decide) rfl zinX3 (by decide) wd_137 rfl dX3_isRecalledUnder_1 ?_
  refine zr_iconst (v := 1) C (by decide) dX3_isRecalledUnder_4 ?_
  refine zr_icmp_ne (tgt := 20) C (by decide) dX3_isRecalledUnder_5 (fun hc1 => ?_) (fun hc1 => ?_)
  · have h := zif_f hc1 h
    refine zr_iconst (v := 0) C (by decide) dX3_isRecalledUnder_20 ?_
    obtain rfl := zso h
    exact zr_zret C hr rfl dX3_isRecalledUnder_21
  · have h := zif_t hc1 h
    refine zr_aload_n C 0 rfl rfl dX3_isRecalledUnder_8 ?_
    refine zr_aload_n C 1 rfl rfl dX3_isRecalledUnder_9 ?_
    obtain ⟨r2, h3, h⟩ := zb_e h
    refine zr_callVi (n := 1) (As := [.ref r0]) C (c_X3_isInOrder l D cy hZ h0 r0 k_h0 k_r0 I A h3) wd_329 wd_330 wd_331 wd_6 wd_332 (by decide +kernel) ⟨(Nat.le_of_ble_eq_true rfl), (Nat.le_of_ble_eq_true rfl)⟩ rfl rfl ⟨Nat.le_refl _, Nat.le_refl _⟩ k_h0 (by decide) rfl rfl rfl (Nat.le_of_ble_eq_true rfl) dX3_isRecalledUnder_10 ?_
    refine zr_if_ne (tgt := 20) C (by decide) dX3_isRecalledUnder_13 (fun hc5 => ?_) (fun hc5 => ?_)
    · have h := zif_f hc5 h
      refine zr_iconst (v := 0) C (by decide) dX3_isRecalledUnder_20 ?_
      obtain rfl := zso h
      exact zr_zret C hr rfl dX3_isRecalledUnder_21
    · have h := zif_t hc5 h
      refine zr_iconst (v := 1) C (by decide) dX3_isRecalledUnder_16 ?_
      refine zr_goto (tgt := 21) C (by decide) dX3_isRecalledUnder_17 ?_
      obtain rfl := zso h
      exact zr_zret C hr rfl dX3_isRecalledUnder_21

def g_X3_firstFreeNode_2 (F G : Nat → Nat → Nat) (v0 : Nat) (v1 : Int32) (I : zH) (A : zH) : Option ((Int32) ⊕ ((Int32) ⊕ (Int32))) :=
  if 10 ≤ v1 then (
    some (.inr (.inl v1))
  ) else (
    zb (f_X5_hasBit F G (I v0 4) v1 I A) fun r2 =>
    if r2 = 0 then (
      some (.inr (.inr v1))
    ) else (
      some (.inl (v1 + 1))
    )
  )
def f_X3_firstFreeNode (F G : Nat → Nat → Nat) (h0 : Nat) (I A : zH) : Option (Int32) :=
  zs (fun q => q) (zIt (fun x => g_X3_firstFreeNode_2 F G h0 x I A) 2000 0) fun x3 =>
   some (-1)
set_option maxHeartbeats 4000000 in
set_option maxRecDepth 100000 in
theorem wb_X3_firstFreeNode_2 (l : Launch) (D : va_G) (cy : Nat → ClassId) {L : List Nat} {K N : Nat → Nat} {F G : Nat → Nat → Nat} (hZ : ZL L K N F G) {p : Program} {e : Env} {R : Room} {s : State} {m : MethodId} {args : Array Value} {below : List Frame} {meth : Method} {c : Code} {cells slots : Nat} {r : Int32} (C : ZC p s m args meth c cX3_firstFreeNode yX3_firstFreeNode.cls 2 D cy L K N F G) (hRf : 1 ≤ R.frames) (hRl : 21 ≤ R.locals) (hRc : cells ≤ R.cells ∧ slots ≤ R.slots) (hr : meth.sig.returnType = (some .int)) (v0 : Nat) (k0 : K v0 = 3) (I : zH) (A : zH) (v1 : Int32) (o : (Int32) ⊕ ((Int32) ⊕ (Int32))) (h : g_X3_firstFreeNode_2 F G v0 v1 I A = some o)
    (hg : ∀ y : Int32, o = .inl y → ZW p l e R s m args below meth c 2 D cy L K N F G cells slots (MQ below (va_Qi (fun x (_ : Unit) => x = r) (fun _ t => zPost D cy L K N F G I A t) (zA L s.heap.size)) args s cells slots (zA L s.heap.size)) I A 2 [(0, .ref v0), (1, .int y)] [])
    (hx : ∀ y : Int32, o = .inr (.inl y) → ZW p l e R s m args below meth c 2 D cy L K N F G cells slots (MQ below (va_Qi (fun x (_ : Unit) => x = r) (fun _ t => zPost D cy L K N F G I A t) (zA L s.heap.size)) args s cells slots (zA L s.heap.size)) I A 27 [(0, .ref v0), (1, .int y)] [])
    (hX : ∀ y : Int32, o = .inr (.inr y) → y = r) : ZW p l e R s m args below meth c 2 D cy L K N F G cells slots (MQ below (va_Qi (fun x (_ : Unit) => x = r) (fun _ t => zPost D cy L K N F G I A t) (zA L s.heap.size)) args s cells slots (zA L s.heap.size)) I A 2 [(0, .ref v0), (1, .int v1)] [] := by
  unfold g_X3_firstFreeNode_2 at h
  refine zr_iload_n C 1 rfl rfl dX3_firstFreeNode_2 ?_
  refine zr_bipush (v := 10) C (by decide) dX3_firstFreeNode_3 ?_
  refine zr_icmp_ge (tgt := 27) C (by decide) dX3_firstFreeNode_5 (fun hc1 => ?_) (fun hc1 => ?_)
  · have h := zif_t hc1 h
    obtain rfl := zso h
    refine zr_lv (lv' := [(0, .ref v0), (1, .int v1)]) C [0, 1] rfl ?_
    exact hx _ rfl
  · have h := zif_f hc1 h
    refine zr_aload_n C 0 rfl rfl dX3_firstFreeNode_8 ?_
    refine zr_get (ci := 3) (k := 4) (v := .int (I v0 4)) C k0 (by decide) rfl zinX3 (by decide) wd_133 rfl dX3_firstFreeNode_9 ?_
    refine zr_iload_n C 1 rfl rfl dX3_firstFreeNode_12 ?_
    obtain ⟨r2, h3, h⟩ := zb_e h
    refine zr_callNi (n := 2) (As := [.int (I v0 4), .int v1]) C (c_X5_hasBit l D cy hZ (I v0 4) v1 I A h3) C.nb.2 wd_323 wd_1 wd_324 (by decide +kernel) ⟨(Nat.le_trans (Nat.le_of_ble_eq_true rfl) hRf), (Nat.le_trans (Nat.le_of_ble_eq_true rfl) hRl)⟩ rfl rfl hRc rfl rfl (Nat.le_of_ble_eq_true rfl) dX3_firstFreeNode_13 ?_
    refine zr_if_ne (tgt := 21) C (by decide) dX3_firstFreeNode_16 (fun hc5 => ?_) (fun hc5 => ?_)
    · have h := zif_f hc5 h
      refine zr_iinc (v := v1 + 1) (lv' := [(1, .int (v1 + 1)), (0, .ref v0)]) C 1 rfl rfl (by decide) rfl dX3_firstFreeNode_21 ?_
      refine zr_goto (tgt := 2) C (by decide) dX3_firstFreeNode_24 ?_
      obtain rfl := zso h
      refine zr_lv (lv' := [(0, .ref v0), (1, .int (v1 + 1))]) C [1, 0] rfl ?_
      exact hg _ rfl
    · have h := zif_t hc5 h
      refine zr_iload_n C 1 rfl rfl dX3_firstFreeNode_19 ?_
      obtain rfl := zso h
      obtain rfl := hX _ rfl
      exact zr_iret C hr dX3_firstFreeNode_20
set_option maxHeartbeats 4000000 in
set_option maxRecDepth 100000 in
theorem w_X3_firstFreeNode_2 (l : Launch) (D : va_G) (cy : Nat → ClassId) {L : List Nat} {K N : Nat → Nat} {F G : Nat → Nat → Nat} (hZ : ZL L K N F G) {p : Program} {e : Env} {R : Room} {s : State} {m : MethodId} {args : Array Value} {below : List Frame} {meth : Method} {c : Code} {cells slots : Nat} {r : Int32} (C : ZC p s m args meth c cX3_firstFreeNode yX3_firstFreeNode.cls 2 D cy L K N F G) (hRf : 1 ≤ R.frames) (hRl : 21 ≤ R.locals) (hRc : cells ≤ R.cells ∧ slots ≤ R.slots) (hr : meth.sig.returnType = (some .int)) (v0 : Nat) (k0 : K v0 = 3) (I : zH) (A : zH) (n : Nat) (x : Int32) (o : (Int32) ⊕ (Int32)) (h : zIt (fun x => g_X3_firstFreeNode_2 F G v0 x I A) n x = some o)
    (hx : ∀ y : Int32, o = .inl y → ZW p l e R s m args below meth c 2 D cy L K N F G cells slots (MQ below (va_Qi (fun x (_ : Unit) => x = r) (fun _ t => zPost D cy L K N F G I A t) (zA L s.heap.size)) args s cells slots (zA L s.heap.size)) I A 27 [(0, .ref v0), (1, .int y)] []) (hX : ∀ y : Int32, o = .inr y → y = r) : ZW p l e R s m args below meth c 2 D cy L K N F G cells slots (MQ below (va_Qi (fun x (_ : Unit) => x = r) (fun _ t => zPost D cy L K N F G I A t) (zA L s.heap.size)) args s cells slots (zA L s.heap.size)) I A 2 [(0, .ref v0), (1, .int x)] [] := by
  induction n generalizing x with
  | zero => cases h
  | succ n ih =>
    unfold zIt at h
    cases hb : g_X3_firstFreeNode_2 F G v0 x I A with
    | none => rw [hb] at h; cases h
    | some q =>
      rw [hb] at h
      refine wb_X3_firstFreeNode_2 l D cy hZ C hRf hRl hRc hr v0 k0 I A x q hb (fun y hy => ?_) (fun y hy => ?_) (fun y hy => ?_)
      · subst hy; exact ih y h
      · subst hy; cases h; exact hx y rfl
      · subst hy; cases h; exact hX y rfl
set_option maxHeartbeats 4000000 in
set_option maxRecDepth 100000 in
theorem c_X3_firstFreeNode (l : Launch) (D : va_G) (cy : Nat → ClassId) {L : List Nat} {K N : Nat → Nat} {F G : Nat → Nat → Nat} (hZ : ZL L K N F G) (h0 : Nat) (k_h0 : K h0 = 3) (I A : zH) {r : Int32} (h : f_X3_firstFreeNode F G h0 I A = some r) : ZMi l yX3_firstFreeNode cX3_firstFreeNode 2 (some .int) { frames := 1, cells := 0, slots := 0, locals := 21 } D cy L K N F G [.ref h0] I A r I A := by
  refine ZMi.of (nL := 2) hZ rfl rfl (by decide) (Nat.le_of_ble_eq_true rfl) (fun p e s m args below meth c C hr => ?_)
  unfold f_X3_firstFreeNode at h
  refine zr_lv (lv' := [(0, .ref h0)]) C [0] rfl ?_
  refine zr_iconst (v := 0) C (by decide) dX3_firstFreeNode_0 ?_
  refine zr_istore_n (lv' := [(1, .int 0), (0, .ref h0)]) C rfl (by decide) rfl dX3_firstFreeNode_1 ?_
  refine zr_lv (lv' := [(0, .ref h0), (1, .int 0)]) C [1, 0] rfl ?_
  obtain ⟨x3, h2, h⟩ | ⟨x3, h2, h⟩ := zs_e h
  · refine w_X3_firstFreeNode_2 l D cy hZ C (Nat.le_of_ble_eq_true rfl) (Nat.le_of_ble_eq_true rfl) ⟨Nat.le_refl _, Nat.le_refl _⟩ hr h0 k_h0 I A 2000 0 (.inl x3) h2 (fun y hy => ?_) (fun q hq => by cases hq)
    cases hy
    obtain ⟨i1, rfl⟩ : ∃ z, z = x3 := ⟨_, rfl⟩
    refine zr_iconst (v := (-1)) C (by decide) dX3_firstFreeNode_27 ?_
    obtain rfl := zso h
    exact zr_iret C hr dX3_firstFreeNode_28
  · refine w_X3_firstFreeNode_2 l D cy hZ C (Nat.le_of_ble_eq_true rfl) (Nat.le_of_ble_eq_true rfl) ⟨Nat.le_refl _, Nat.le_refl _⟩ hr h0 k_h0 I A 2000 0 (.inr x3) h2 (fun y hy => by cases hy) (fun q hq => ?_)
    cases hq
    exact h

def f_X3_grow (F G : Nat → Nat → Nat) (h0 : Nat) (p0 : Int32) (p1 : Int32) (p2 : Int32) (I A : zH) : Option (zH × zH) :=
  zlet (up2 I h0 4 ((I h0 4) ||| ((1 : Int32) <<< (p0 &&& 31)))) fun I1 =>
  zck (¬ (p0 < 0 ∨ 10 ≤ p0.toNatClampNeg)) <|
  zlet (up2 A (F h0 0) p0.toNatClampNeg p1) fun A3 =>
  zck (¬ (p1 < 0 ∨ 10 ≤ p1.toNatClampNeg)) <|
  zck (¬ (p0 < 0 ∨ 10 ≤ p0.toNatClampNeg)) <|
  zlet (up2 A3 (F h0 1) p0.toNatClampNeg ((A3 (F h0 1) p1.toNatClampNeg) ||| ((1 : Int32) <<< (p1 &&& 31)))) fun A6 =>
  zck (¬ (p0 < 0 ∨ 10 ≤ p0.toNatClampNeg)) <|
  zlet (up2 A6 (F h0 2) p0.toNatClampNeg p2) fun A8 =>
  some (I1, A8)
set_option maxHeartbeats 4000000 in
set_option maxRecDepth 100000 in
theorem c_X3_grow (l : Launch) (D : va_G) (cy : Nat → ClassId) {L : List Nat} {K N : Nat → Nat} {F G : Nat → Nat → Nat} (hZ : ZL L K N F G) (h0 : Nat) (p0 : Int32) (p1 : Int32) (p2 : Int32) (k_h0 : K h0 = 3) (I A : zH) {J' : zH} {B' : zH} (h : f_X3_grow F G h0 p0 p1 p2 I A = some (J', B')) : ZMv l yX3_grow cX3_grow 4 none { frames := 0, cells := 0, slots := 0, locals := 0 } D cy L K N F G [.ref h0, .int p0, .int p1, .int p2] I A J' B' := by
  refine ZMv.of (nL := 4) hZ rfl rfl (by decide) (Nat.le_of_ble_eq_true rfl) (fun p e s m args below meth c C hr => ?_)
  unfold f_X3_grow at h
  refine zr_lv (lv' := [(0, .ref h0), (1, .int p0), (2, .int p1), (3, .int p2)]) C [0, 1, 2, 3] rfl ?_
  refine zr_aload_n C 0 rfl rfl dX3_grow_0 ?_
  refine zr_dup C rfl dX3_grow_1 ?_
  refine zr_get (ci := 3) (k := 4) (v := .int (I h0 4)) C k_h0 (by decide) rfl zinX3 (by decide) wd_133 rfl dX3_grow_2 ?_
  refine zr_iconst (v := 1) C (by decide) dX3_grow_5 ?_
  refine zr_iload_n C 1 rfl rfl dX3_grow_6 ?_
  refine zr_ishl C dX3_grow_7 ?_
  refine zr_ior C dX3_grow_8 ?_
  refine zr_put (ci := 3) (k := 4) (ty := .int) C tyX3 k_h0 (by decide) rfl zinX3 tyX3_ok nmX3 (by decide) wd_133 rfl (by decide +kernel) rfl rfl (Nat.le_of_ble_eq_true rfl) (zset_3_4 F _ _ _) dX3_grow_9 ?_
  obtain ⟨I1, eI1, h⟩ := zlet_e h
  rw [← eI1]
  refine zr_aload_n C 0 rfl rfl dX3_grow_12 ?_
  refine zr_get (ci := 3) (k := 0) (v := .ref (F h0 0)) C k_h0 (by decide) rfl zinX3 (by decide) wd_126 rfl dX3_grow_13 ?_
  refine zr_iload_n C 1 rfl rfl dX3_grow_16 ?_
  refine zr_iload_n C 2 rfl rfl dX3_grow_17 ?_
  obtain ⟨hc2, h⟩ := zck_e h
  refine zr_iast C (zt3 hZ k_h0 0 (by decide)).1 (zt3 hZ k_h0 0 (by decide)).2 hc2 dX3_grow_18 ?_
  obtain ⟨A3, eA3, h⟩ := zlet_e h
  rw [← eA3]
  refine zr_aload_n C 0 rfl rfl dX3_grow_19 ?_
  refine zr_get (ci := 3) (k := 1) (v := .ref (F h0 1)) C k_h0 (by decide) rfl zinX3 (by decide) wd_128 rfl dX3_grow_20 ?_
  refine zr_iload_n C 1 rfl rfl dX3_grow_23 ?_
  refine zr_aload_n C 0 rfl rfl dX3_grow_24 ?_
  refine zr_get (ci := 3) (k := 1) (v := .ref (F h0 1)) C k_h0 (by decide) rfl zinX3 (by decide) wd_128 rfl dX3_grow_25 ?_
  refine zr_iload_n C 2 rfl rfl dX3_grow_28 ?_
  obtain ⟨hc4, h⟩ := zck_e h
  refine zr_iald C (zt3 hZ k_h0 1 (by decide)).1 (zt3 hZ k_h0 1 (by decide)).2 hc4 dX3_grow_29 ?_
  refine zr_iconst (v := 1) C (by decide) dX3_grow_30 ?_
  refine zr_iload_n C 2 rfl rfl dX3_grow_31 ?_
  refine zr_ishl C dX3_grow_32 ?_
  refine zr_ior C dX3_grow_33 ?_
  obtain ⟨hc5, h⟩ := zck_e h
  refine zr_iast C (zt3 hZ k_h0 1 (by decide)).1 (zt3 hZ k_h0 1 (by decide)).2 hc5 dX3_grow_34 ?_
  obtain ⟨A6, eA6, h⟩ := zlet_e h
  rw [← eA6]
  refine zr_aload_n C 0 rfl rfl dX3_grow_35 ?_
  refine zr_get (ci := 3) (k := 2) (v := .ref (F h0 2)) C k_h0 (by decide) rfl zinX3 (by decide) wd_130 rfl dX3_grow_36 ?_
  refine zr_iload_n C 1 rfl rfl dX3_grow_39 ?_
  refine zr_iload_n C 3 rfl rfl dX3_grow_40 ?_
  obtain ⟨hc7, h⟩ := zck_e h
  refine zr_iast C (zt3 hZ k_h0 2 (by decide)).1 (zt3 hZ k_h0 2 (by decide)).2 hc7 dX3_grow_41 ?_
  obtain ⟨A8, eA8, h⟩ := zlet_e h
  rw [← eA8]
  cases zso h
  exact zr_vret C hr dX3_grow_42
end
section
def g_X5_projectsThatAre_4 (F G : Nat → Nat → Nat) (v0 : Nat) (v1 : Int32) (v2 : Int32) (v3 : Int32) (I : zH) (A : zH) : Option ((Int32 × Int32) ⊕ (Int32 × Int32)) :=
  if (I v0 10) ≤ v3 then (
    some (.inr (v2, v3))
  ) else (
    zck (¬ (v3 < 0 ∨ 5 ≤ v3.toNatClampNeg)) <|
    if (I (G (F v0 5) v3.toNatClampNeg) 6) = v1 then (
      some (.inl (v2 + 1, v3 + 1))
    ) else (
      some (.inl (v2, v3 + 1))
    )
  )
def f_X5_projectsThatAre (F G : Nat → Nat → Nat) (h0 : Nat) (p0 : Int32) (I A : zH) : Option (Int32) :=
  zb2 (zIt (fun x => g_X5_projectsThatAre_4 F G h0 p0 x.1 x.2 I A) 2000 (0, 0)) fun i1 i2 =>
  some i1
set_option maxHeartbeats 4000000 in
set_option maxRecDepth 100000 in
theorem wb_X5_projectsThatAre_4 (l : Launch) (D : va_G) (cy : Nat → ClassId) {L : List Nat} {K N : Nat → Nat} {F G : Nat → Nat → Nat} (hZ : ZL L K N F G) {p : Program} {e : Env} {R : Room} {s : State} {m : MethodId} {args : Array Value} {below : List Frame} {meth : Method} {c : Code} {cells slots : Nat} {Q : State → Prop} (C : ZC p s m args meth c cX5_projectsThatAre yX5_projectsThatAre.cls 4 D cy L K N F G) (hRf : 0 ≤ R.frames) (hRl : 0 ≤ R.locals) (hRc : cells ≤ R.cells ∧ slots ≤ R.slots)  (v0 : Nat) (v1 : Int32) (k0 : K v0 = 5) (I : zH) (A : zH) (v2 : Int32) (v3 : Int32) (o : (Int32 × Int32) ⊕ (Int32 × Int32)) (h : g_X5_projectsThatAre_4 F G v0 v1 v2 v3 I A = some o)
    (hg : ∀ y : Int32 × Int32, o = .inl y → ZW p l e R s m args below meth c 4 D cy L K N F G cells slots Q I A 4 [(0, .ref v0), (1, .int v1), (2, .int y.1), (3, .int y.2)] [])
    (hx : ∀ y : Int32 × Int32, o = .inr y → ZW p l e R s m args below meth c 4 D cy L K N F G cells slots Q I A 34 [(0, .ref v0), (1, .int v1), (2, .int y.1), (3, .int y.2)] []) : ZW p l e R s m args below meth c 4 D cy L K N F G cells slots Q I A 4 [(0, .ref v0), (1, .int v1), (2, .int v2), (3, .int v3)] [] := by
  unfold g_X5_projectsThatAre_4 at h
  refine zr_iload_n C 3 rfl rfl dX5_projectsThatAre_4 ?_
  refine zr_aload_n C 0 rfl rfl dX5_projectsThatAre_5 ?_
  refine zr_get (ci := 5) (k := 10) (v := .int (I v0 10)) C k0 (by decide) rfl zinX5 (by decide) wd_168 rfl dX5_projectsThatAre_6 ?_
  refine zr_icmp_ge (tgt := 34) C (by decide) dX5_projectsThatAre_9 (fun hc1 => ?_) (fun hc1 => ?_)
  · have h := zif_t hc1 h
    obtain rfl := zso h
    refine zr_lv (lv' := [(0, .ref v0), (1, .int v1), (2, .int v2), (3, .int v3)]) C [0, 1, 2, 3] rfl ?_
    exact hx _ rfl
  · have h := zif_f hc1 h
    refine zr_aload_n C 0 rfl rfl dX5_projectsThatAre_12 ?_
    refine zr_get (ci := 5) (k := 5) (v := .ref (F v0 5)) C k0 (by decide) rfl zinX5 (by decide) wd_163 rfl dX5_projectsThatAre_13 ?_
    refine zr_iload_n C 3 rfl rfl dX5_projectsThatAre_16 ?_
    obtain ⟨hc2, h⟩ := zck_e h
    refine zr_ald9 C (zt55 hZ k0).1 (zt55 hZ k0).2 hc2 dX5_projectsThatAre_17 ?_
    refine zr_get (ci := 3) (k := 6) (v := .int (I (G (F v0 5) v3.toNatClampNeg) 6)) C (zt9 hZ (zt55 hZ k0).1 (z_ix (zt55 hZ k0).2 hc2)) (by decide) rfl zinX3 (by decide) wd_138 rfl dX5_projectsThatAre_18 ?_
    refine zr_iload_n C 1 rfl rfl dX5_projectsThatAre_21 ?_
    refine zr_icmp_ne (tgt := 28) C (by decide) dX5_projectsThatAre_22 (fun hc3 => ?_) (fun hc3 => ?_)
    · have h := zif_f hc3 h
      refine zr_iinc (v := v3 + 1) (lv' := [(3, .int (v3 + 1)), (0, .ref v0), (1, .int v1), (2, .int v2)]) C 3 rfl rfl (by decide) rfl dX5_projectsThatAre_28 ?_
      refine zr_goto (tgt := 4) C (by decide) dX5_projectsThatAre_31 ?_
      obtain rfl := zso h
      refine zr_lv (lv' := [(0, .ref v0), (1, .int v1), (2, .int v2), (3, .int (v3 + 1))]) C [1, 2, 3, 0] rfl ?_
      exact hg _ rfl
    · have h := zif_t hc3 h
      refine zr_iinc (v := v2 + 1) (lv' := [(2, .int (v2 + 1)), (0, .ref v0), (1, .int v1), (3, .int v3)]) C 2 rfl rfl (by decide) rfl dX5_projectsThatAre_25 ?_
      refine zr_iinc (v := v3 + 1) (lv' := [(3, .int (v3 + 1)), (2, .int (v2 + 1)), (0, .ref v0), (1, .int v1)]) C 3 rfl rfl (by decide) rfl dX5_projectsThatAre_28 ?_
      refine zr_goto (tgt := 4) C (by decide) dX5_projectsThatAre_31 ?_
      obtain rfl := zso h
      refine zr_lv (lv' := [(0, .ref v0), (1, .int v1), (2, .int (v2 + 1)), (3, .int (v3 + 1))]) C [2, 3, 1, 0] rfl ?_
      exact hg _ rfl
set_option maxHeartbeats 4000000 in
set_option maxRecDepth 100000 in
theorem w_X5_projectsThatAre_4 (l : Launch) (D : va_G) (cy : Nat → ClassId) {L : List Nat} {K N : Nat → Nat} {F G : Nat → Nat → Nat} (hZ : ZL L K N F G) {p : Program} {e : Env} {R : Room} {s : State} {m : MethodId} {args : Array Value} {below : List Frame} {meth : Method} {c : Code} {cells slots : Nat} {Q : State → Prop} (C : ZC p s m args meth c cX5_projectsThatAre yX5_projectsThatAre.cls 4 D cy L K N F G) (hRf : 0 ≤ R.frames) (hRl : 0 ≤ R.locals) (hRc : cells ≤ R.cells ∧ slots ≤ R.slots)  (v0 : Nat) (v1 : Int32) (k0 : K v0 = 5) (I : zH) (A : zH) (n : Nat) (x : Int32 × Int32) (o : Int32 × Int32) (h : zIt (fun x => g_X5_projectsThatAre_4 F G v0 v1 x.1 x.2 I A) n x = some o)
    (hx : ZW p l e R s m args below meth c 4 D cy L K N F G cells slots Q I A 34 [(0, .ref v0), (1, .int v1), (2, .int o.1), (3, .int o.2)] []) : ZW p l e R s m args below meth c 4 D cy L K N F G cells slots Q I A 4 [(0, .ref v0), (1, .int v1), (2, .int x.1), (3, .int x.2)] [] := by
  induction n generalizing x with
  | zero => cases h
  | succ n ih =>
    unfold zIt at h
    cases hb : g_X5_projectsThatAre_4 F G v0 v1 x.1 x.2 I A with
    | none => rw [hb] at h; cases h
    | some q =>
      rw [hb] at h
      refine wb_X5_projectsThatAre_4 l D cy hZ C hRf hRl hRc v0 v1 k0 I A x.1 x.2 q hb (fun y hy => ?_) (fun y hy => ?_)
      · subst hy; exact ih y h
      · subst hy; cases h; exact hx
set_option maxHeartbeats 4000000 in
set_option maxRecDepth 100000 in
theorem c_X5_projectsThatAre (l : Launch) (D : va_G) (cy : Nat → ClassId) {L : List Nat} {K N : Nat → Nat} {F G : Nat → Nat → Nat} (hZ : ZL L K N F G) (h0 : Nat) (p0 : Int32) (k_h0 : K h0 = 5) (I A : zH) {r : Int32} (h : f_X5_projectsThatAre F G h0 p0 I A = some r) : ZMi l yX5_projectsThatAre cX5_projectsThatAre 4 (some .int) { frames := 0, cells := 0, slots := 0, locals := 0 } D cy L K N F G [.ref h0, .int p0] I A r I A := by
  refine ZMi.of (nL := 4) hZ rfl rfl (by decide) (Nat.le_of_ble_eq_true rfl) (fun p e s m args below meth c C hr => ?_)
  unfold f_X5_projectsThatAre at h
  refine zr_lv (lv' := [(0, .ref h0), (1, .int p0)]) C [0, 1] rfl ?_
  refine zr_iconst (v := 0) C (by decide) dX5_projectsThatAre_0 ?_
  refine zr_istore_n (lv' := [(2, .int 0), (0, .ref h0), (1, .int p0)]) C rfl (by decide) rfl dX5_projectsThatAre_1 ?_
  refine zr_iconst (v := 0) C (by decide) dX5_projectsThatAre_2 ?_
  refine zr_istore_n (lv' := [(3, .int 0), (2, .int 0), (0, .ref h0), (1, .int p0)]) C rfl (by decide) rfl dX5_projectsThatAre_3 ?_
  obtain ⟨i1, i2, h3, h⟩ := zb2_e h
  refine zr_lv (lv' := [(0, .ref h0), (1, .int p0), (2, .int 0), (3, .int 0)]) C [2, 3, 1, 0] rfl ?_
  refine w_X5_projectsThatAre_4 l D cy hZ C (Nat.le_of_ble_eq_true rfl) (Nat.le_of_ble_eq_true rfl) ⟨Nat.le_refl _, Nat.le_refl _⟩ h0 p0 k_h0 I A 2000 (0, 0) (i1, i2) h3 ?_
  refine zr_iload_n C 2 rfl rfl dX5_projectsThatAre_34 ?_
  obtain rfl := zso h
  exact zr_iret C hr dX5_projectsThatAre_35

def g_X5_nodesOfAll_4 (F G : Nat → Nat → Nat) (v0 : Nat) (v1 : Int32) (v2 : Int32) (I : zH) (A : zH) : Option ((Int32 × Int32) ⊕ (Int32 × Int32)) :=
  if (I v0 10) ≤ v2 then (
    some (.inr (v1, v2))
  ) else (
    zck (¬ (v2 < 0 ∨ 5 ≤ v2.toNatClampNeg)) <|
    zb (f_J6_bitCount_0f7a4 F G (I (G (F v0 5) v2.toNatClampNeg) 4) I A) fun r3 =>
    some (.inl (v1 + r3, v2 + 1))
  )
def f_X5_nodesOfAll (F G : Nat → Nat → Nat) (h0 : Nat) (I A : zH) : Option (Int32) :=
  zb2 (zIt (fun x => g_X5_nodesOfAll_4 F G h0 x.1 x.2 I A) 2000 (0, 0)) fun i1 i2 =>
  some i1
set_option maxHeartbeats 4000000 in
set_option maxRecDepth 100000 in
theorem wb_X5_nodesOfAll_4 (l : Launch) (D : va_G) (cy : Nat → ClassId) {L : List Nat} {K N : Nat → Nat} {F G : Nat → Nat → Nat} (hZ : ZL L K N F G) {p : Program} {e : Env} {R : Room} {s : State} {m : MethodId} {args : Array Value} {below : List Frame} {meth : Method} {c : Code} {cells slots : Nat} {Q : State → Prop} (C : ZC p s m args meth c cX5_nodesOfAll yX5_nodesOfAll.cls 3 D cy L K N F G) (hRf : 1 ≤ R.frames) (hRl : 20 ≤ R.locals) (hRc : cells ≤ R.cells ∧ slots ≤ R.slots)  (v0 : Nat) (k0 : K v0 = 5) (I : zH) (A : zH) (v1 : Int32) (v2 : Int32) (o : (Int32 × Int32) ⊕ (Int32 × Int32)) (h : g_X5_nodesOfAll_4 F G v0 v1 v2 I A = some o)
    (hg : ∀ y : Int32 × Int32, o = .inl y → ZW p l e R s m args below meth c 3 D cy L K N F G cells slots Q I A 4 [(0, .ref v0), (1, .int y.1), (2, .int y.2)] [])
    (hx : ∀ y : Int32 × Int32, o = .inr y → ZW p l e R s m args below meth c 3 D cy L K N F G cells slots Q I A 33 [(0, .ref v0), (1, .int y.1), (2, .int y.2)] []) : ZW p l e R s m args below meth c 3 D cy L K N F G cells slots Q I A 4 [(0, .ref v0), (1, .int v1), (2, .int v2)] [] := by
  unfold g_X5_nodesOfAll_4 at h
  refine zr_iload_n C 2 rfl rfl dX5_nodesOfAll_4 ?_
  refine zr_aload_n C 0 rfl rfl dX5_nodesOfAll_5 ?_
  refine zr_get (ci := 5) (k := 10) (v := .int (I v0 10)) C k0 (by decide) rfl zinX5 (by decide) wd_168 rfl dX5_nodesOfAll_6 ?_
  refine zr_icmp_ge (tgt := 33) C (by decide) dX5_nodesOfAll_9 (fun hc1 => ?_) (fun hc1 => ?_)
  · have h := zif_t hc1 h
    obtain rfl := zso h
    refine zr_lv (lv' := [(0, .ref v0), (1, .int v1), (2, .int v2)]) C [0, 1, 2] rfl ?_
    exact hx _ rfl
  · have h := zif_f hc1 h
    refine zr_iload_n C 1 rfl rfl dX5_nodesOfAll_12 ?_
    refine zr_aload_n C 0 rfl rfl dX5_nodesOfAll_13 ?_
    refine zr_get (ci := 5) (k := 5) (v := .ref (F v0 5)) C k0 (by decide) rfl zinX5 (by decide) wd_163 rfl dX5_nodesOfAll_14 ?_
    refine zr_iload_n C 2 rfl rfl dX5_nodesOfAll_17 ?_
    obtain ⟨hc2, h⟩ := zck_e h
    refine zr_ald9 C (zt55 hZ k0).1 (zt55 hZ k0).2 hc2 dX5_nodesOfAll_18 ?_
    refine zr_get (ci := 3) (k := 4) (v := .int (I (G (F v0 5) v2.toNatClampNeg) 4)) C (zt9 hZ (zt55 hZ k0).1 (z_ix (zt55 hZ k0).2 hc2)) (by decide) rfl zinX3 (by decide) wd_134 rfl dX5_nodesOfAll_19 ?_
    obtain ⟨r3, h4, h⟩ := zb_e h
    refine zr_callSi (n := 1) (As := [.int (I (G (F v0 5) v2.toNatClampNeg) 4)]) C (c_J6_bitCount_0f7a4 l D cy hZ (I (G (F v0 5) v2.toNatClampNeg) 4) I A h4) wd_503 wd_359 wd_12 wd_360 (by decide +kernel) ⟨(Nat.le_trans (Nat.le_of_ble_eq_true rfl) hRf), (Nat.le_trans (Nat.le_of_ble_eq_true rfl) hRl)⟩ rfl rfl hRc rfl rfl (Nat.le_of_ble_eq_true rfl) dX5_nodesOfAll_22 ?_
    refine zr_iadd C dX5_nodesOfAll_25 ?_
    refine zr_istore_n (lv' := [(1, .int (v1 + r3)), (0, .ref v0), (2, .int v2)]) C rfl (by decide) rfl dX5_nodesOfAll_26 ?_
    refine zr_iinc (v := v2 + 1) (lv' := [(2, .int (v2 + 1)), (1, .int (v1 + r3)), (0, .ref v0)]) C 2 rfl rfl (by decide) rfl dX5_nodesOfAll_27 ?_
    refine zr_goto (tgt := 4) C (by decide) dX5_nodesOfAll_30 ?_
    obtain rfl := zso h
    refine zr_lv (lv' := [(0, .ref v0), (1, .int (v1 + r3)), (2, .int (v2 + 1))]) C [2, 1, 0] rfl ?_
    exact hg _ rfl
set_option maxHeartbeats 4000000 in
set_option maxRecDepth 100000 in
theorem w_X5_nodesOfAll_4 (l : Launch) (D : va_G) (cy : Nat → ClassId) {L : List Nat} {K N : Nat → Nat} {F G : Nat → Nat → Nat} (hZ : ZL L K N F G) {p : Program} {e : Env} {R : Room} {s : State} {m : MethodId} {args : Array Value} {below : List Frame} {meth : Method} {c : Code} {cells slots : Nat} {Q : State → Prop} (C : ZC p s m args meth c cX5_nodesOfAll yX5_nodesOfAll.cls 3 D cy L K N F G) (hRf : 1 ≤ R.frames) (hRl : 20 ≤ R.locals) (hRc : cells ≤ R.cells ∧ slots ≤ R.slots)  (v0 : Nat) (k0 : K v0 = 5) (I : zH) (A : zH) (n : Nat) (x : Int32 × Int32) (o : Int32 × Int32) (h : zIt (fun x => g_X5_nodesOfAll_4 F G v0 x.1 x.2 I A) n x = some o)
    (hx : ZW p l e R s m args below meth c 3 D cy L K N F G cells slots Q I A 33 [(0, .ref v0), (1, .int o.1), (2, .int o.2)] []) : ZW p l e R s m args below meth c 3 D cy L K N F G cells slots Q I A 4 [(0, .ref v0), (1, .int x.1), (2, .int x.2)] [] := by
  induction n generalizing x with
  | zero => cases h
  | succ n ih =>
    unfold zIt at h
    cases hb : g_X5_nodesOfAll_4 F G v0 x.1 x.2 I A with
    | none => rw [hb] at h; cases h
    | some q =>
      rw [hb] at h
      refine wb_X5_nodesOfAll_4 l D cy hZ C hRf hRl hRc v0 k0 I A x.1 x.2 q hb (fun y hy => ?_) (fun y hy => ?_)
      · subst hy; exact ih y h
      · subst hy; cases h; exact hx
set_option maxHeartbeats 4000000 in
set_option maxRecDepth 100000 in
theorem c_X5_nodesOfAll (l : Launch) (D : va_G) (cy : Nat → ClassId) {L : List Nat} {K N : Nat → Nat} {F G : Nat → Nat → Nat} (hZ : ZL L K N F G) (h0 : Nat) (k_h0 : K h0 = 5) (I A : zH) {r : Int32} (h : f_X5_nodesOfAll F G h0 I A = some r) : ZMi l yX5_nodesOfAll cX5_nodesOfAll 3 (some .int) { frames := 1, cells := 0, slots := 0, locals := 20 } D cy L K N F G [.ref h0] I A r I A := by
  refine ZMi.of (nL := 3) hZ rfl rfl (by decide) (Nat.le_of_ble_eq_true rfl) (fun p e s m args below meth c C hr => ?_)
  unfold f_X5_nodesOfAll at h
  refine zr_lv (lv' := [(0, .ref h0)]) C [0] rfl ?_
  refine zr_iconst (v := 0) C (by decide) dX5_nodesOfAll_0 ?_
  refine zr_istore_n (lv' := [(1, .int 0), (0, .ref h0)]) C rfl (by decide) rfl dX5_nodesOfAll_1 ?_
  refine zr_iconst (v := 0) C (by decide) dX5_nodesOfAll_2 ?_
  refine zr_istore_n (lv' := [(2, .int 0), (1, .int 0), (0, .ref h0)]) C rfl (by decide) rfl dX5_nodesOfAll_3 ?_
  obtain ⟨i1, i2, h3, h⟩ := zb2_e h
  refine zr_lv (lv' := [(0, .ref h0), (1, .int 0), (2, .int 0)]) C [2, 1, 0] rfl ?_
  refine w_X5_nodesOfAll_4 l D cy hZ C (Nat.le_of_ble_eq_true rfl) (Nat.le_of_ble_eq_true rfl) ⟨Nat.le_refl _, Nat.le_refl _⟩ h0 k_h0 I A 2000 (0, 0) (i1, i2) h3 ?_
  refine zr_iload_n C 1 rfl rfl dX5_nodesOfAll_33 ?_
  obtain rfl := zso h
  exact zr_iret C hr dX5_nodesOfAll_34

def g_X5_firstPieces_4 (F G : Nat → Nat → Nat) (v0 : Nat) (v1 : Int32) (v2 : Int32) (I : zH) (A : zH) : Option ((Int32 × Int32) ⊕ (Int32 × Int32)) :=
  if (I v0 8) ≤ v2 then (
    some (.inr (v1, v2))
  ) else (
    zck (¬ (v2 < 0 ∨ 16 ≤ v2.toNatClampNeg)) <|
    if (A (F v0 3) v2.toNatClampNeg) = 0 then (
      some (.inl (v1 + 1, v2 + 1))
    ) else (
      some (.inl (v1, v2 + 1))
    )
  )
def f_X5_firstPieces (F G : Nat → Nat → Nat) (h0 : Nat) (I A : zH) : Option (Int32) :=
  zb2 (zIt (fun x => g_X5_firstPieces_4 F G h0 x.1 x.2 I A) 2000 (0, 0)) fun i1 i2 =>
  some i1
set_option maxHeartbeats 4000000 in
set_option maxRecDepth 100000 in
theorem wb_X5_firstPieces_4 (l : Launch) (D : va_G) (cy : Nat → ClassId) {L : List Nat} {K N : Nat → Nat} {F G : Nat → Nat → Nat} (hZ : ZL L K N F G) {p : Program} {e : Env} {R : Room} {s : State} {m : MethodId} {args : Array Value} {below : List Frame} {meth : Method} {c : Code} {cells slots : Nat} {Q : State → Prop} (C : ZC p s m args meth c cX5_firstPieces yX5_firstPieces.cls 3 D cy L K N F G) (hRf : 0 ≤ R.frames) (hRl : 0 ≤ R.locals) (hRc : cells ≤ R.cells ∧ slots ≤ R.slots)  (v0 : Nat) (k0 : K v0 = 5) (I : zH) (A : zH) (v1 : Int32) (v2 : Int32) (o : (Int32 × Int32) ⊕ (Int32 × Int32)) (h : g_X5_firstPieces_4 F G v0 v1 v2 I A = some o)
    (hg : ∀ y : Int32 × Int32, o = .inl y → ZW p l e R s m args below meth c 3 D cy L K N F G cells slots Q I A 4 [(0, .ref v0), (1, .int y.1), (2, .int y.2)] [])
    (hx : ∀ y : Int32 × Int32, o = .inr y → ZW p l e R s m args below meth c 3 D cy L K N F G cells slots Q I A 30 [(0, .ref v0), (1, .int y.1), (2, .int y.2)] []) : ZW p l e R s m args below meth c 3 D cy L K N F G cells slots Q I A 4 [(0, .ref v0), (1, .int v1), (2, .int v2)] [] := by
  unfold g_X5_firstPieces_4 at h
  refine zr_iload_n C 2 rfl rfl dX5_firstPieces_4 ?_
  refine zr_aload_n C 0 rfl rfl dX5_firstPieces_5 ?_
  refine zr_get (ci := 5) (k := 8) (v := .int (I v0 8)) C k0 (by decide) rfl zinX5 (by decide) wd_166 rfl dX5_firstPieces_6 ?_
  refine zr_icmp_ge (tgt := 30) C (by decide) dX5_firstPieces_9 (fun hc1 => ?_) (fun hc1 => ?_)
  · have h := zif_t hc1 h
    obtain rfl := zso h
    refine zr_lv (lv' := [(0, .ref v0), (1, .int v1), (2, .int v2)]) C [0, 1, 2] rfl ?_
    exact hx _ rfl
  · have h := zif_f hc1 h
    refine zr_aload_n C 0 rfl rfl dX5_firstPieces_12 ?_
    refine zr_get (ci := 5) (k := 3) (v := .ref (F v0 3)) C k0 (by decide) rfl zinX5 (by decide) wd_161 rfl dX5_firstPieces_13 ?_
    refine zr_iload_n C 2 rfl rfl dX5_firstPieces_16 ?_
    obtain ⟨hc2, h⟩ := zck_e h
    refine zr_iald C (zt53 hZ k0).1 (zt53 hZ k0).2 hc2 dX5_firstPieces_17 ?_
    refine zr_if_ne (tgt := 24) C (by decide) dX5_firstPieces_18 (fun hc3 => ?_) (fun hc3 => ?_)
    · have h := zif_f hc3 h
      refine zr_iinc (v := v2 + 1) (lv' := [(2, .int (v2 + 1)), (0, .ref v0), (1, .int v1)]) C 2 rfl rfl (by decide) rfl dX5_firstPieces_24 ?_
      refine zr_goto (tgt := 4) C (by decide) dX5_firstPieces_27 ?_
      obtain rfl := zso h
      refine zr_lv (lv' := [(0, .ref v0), (1, .int v1), (2, .int (v2 + 1))]) C [1, 2, 0] rfl ?_
      exact hg _ rfl
    · have h := zif_t hc3 h
      refine zr_iinc (v := v1 + 1) (lv' := [(1, .int (v1 + 1)), (0, .ref v0), (2, .int v2)]) C 1 rfl rfl (by decide) rfl dX5_firstPieces_21 ?_
      refine zr_iinc (v := v2 + 1) (lv' := [(2, .int (v2 + 1)), (1, .int (v1 + 1)), (0, .ref v0)]) C 2 rfl rfl (by decide) rfl dX5_firstPieces_24 ?_
      refine zr_goto (tgt := 4) C (by decide) dX5_firstPieces_27 ?_
      obtain rfl := zso h
      refine zr_lv (lv' := [(0, .ref v0), (1, .int (v1 + 1)), (2, .int (v2 + 1))]) C [2, 1, 0] rfl ?_
      exact hg _ rfl
set_option maxHeartbeats 4000000 in
set_option maxRecDepth 100000 in
theorem w_X5_firstPieces_4 (l : Launch) (D : va_G) (cy : Nat → ClassId) {L : List Nat} {K N : Nat → Nat} {F G : Nat → Nat → Nat} (hZ : ZL L K N F G) {p : Program} {e : Env} {R : Room} {s : State} {m : MethodId} {args : Array Value} {below : List Frame} {meth : Method} {c : Code} {cells slots : Nat} {Q : State → Prop} (C : ZC p s m args meth c cX5_firstPieces yX5_firstPieces.cls 3 D cy L K N F G) (hRf : 0 ≤ R.frames) (hRl : 0 ≤ R.locals) (hRc : cells ≤ R.cells ∧ slots ≤ R.slots)  (v0 : Nat) (k0 : K v0 = 5) (I : zH) (A : zH) (n : Nat) (x : Int32 × Int32) (o : Int32 × Int32) (h : zIt (fun x => g_X5_firstPieces_4 F G v0 x.1 x.2 I A) n x = some o)
    (hx : ZW p l e R s m args below meth c 3 D cy L K N F G cells slots Q I A 30 [(0, .ref v0), (1, .int o.1), (2, .int o.2)] []) : ZW p l e R s m args below meth c 3 D cy L K N F G cells slots Q I A 4 [(0, .ref v0), (1, .int x.1), (2, .int x.2)] [] := by
  induction n generalizing x with
  | zero => cases h
  | succ n ih =>
    unfold zIt at h
    cases hb : g_X5_firstPieces_4 F G v0 x.1 x.2 I A with
    | none => rw [hb] at h; cases h
    | some q =>
      rw [hb] at h
      refine wb_X5_firstPieces_4 l D cy hZ C hRf hRl hRc v0 k0 I A x.1 x.2 q hb (fun y hy => ?_) (fun y hy => ?_)
      · subst hy; exact ih y h
      · subst hy; cases h; exact hx
set_option maxHeartbeats 4000000 in
set_option maxRecDepth 100000 in
theorem c_X5_firstPieces (l : Launch) (D : va_G) (cy : Nat → ClassId) {L : List Nat} {K N : Nat → Nat} {F G : Nat → Nat → Nat} (hZ : ZL L K N F G) (h0 : Nat) (k_h0 : K h0 = 5) (I A : zH) {r : Int32} (h : f_X5_firstPieces F G h0 I A = some r) : ZMi l yX5_firstPieces cX5_firstPieces 3 (some .int) { frames := 0, cells := 0, slots := 0, locals := 0 } D cy L K N F G [.ref h0] I A r I A := by
  refine ZMi.of (nL := 3) hZ rfl rfl (by decide) (Nat.le_of_ble_eq_true rfl) (fun p e s m args below meth c C hr => ?_)
  unfold f_X5_firstPieces at h
  refine zr_lv (lv' := [(0, .ref h0)]) C [0] rfl ?_
  refine zr_iconst (v := 0) C (by decide) dX5_firstPieces_0 ?_
  refine zr_istore_n (lv' := [(1, .int 0), (0, .ref h0)]) C rfl (by decide) rfl dX5_firstPieces_1 ?_
  refine zr_iconst (v := 0) C (by decide) dX5_firstPieces_2 ?_
  refine zr_istore_n (lv' := [(2, .int 0), (1, .int 0), (0, .ref h0)]) C rfl (by decide) rfl dX5_firstPieces_3 ?_
  obtain ⟨i1, i2, h3, h⟩ := zb2_e h
  refine zr_lv (lv' := [(0, .ref h0), (1, .int 0), (2, .int 0)]) C [2, 1, 0] rfl ?_
  refine w_X5_firstPieces_4 l D cy hZ C (Nat.le_of_ble_eq_true rfl) (Nat.le_of_ble_eq_true rfl) ⟨Nat.le_refl _, Nat.le_refl _⟩ h0 k_h0 I A 2000 (0, 0) (i1, i2) h3 ?_
  refine zr_iload_n C 1 rfl rfl dX5_firstPieces_30 ?_
  obtain rfl := zso h
  exact zr_iret C hr dX5_firstPieces_31

def f_X5_many (F G : Nat → Nat → Nat) (h0 : Nat) (p0 : Int32) (I A : zH) : Option (Int32) :=
  if p0 = 0 then (
    some (I (F h0 0) 2)
  ) else (
  if p0 = 1 then (
    some (I h0 8)
  ) else (
  if p0 = 2 then (
    some (I h0 9)
  ) else (
  if p0 = 3 then (
    some (I h0 10)
  ) else (
  if p0 = 4 then (
    zb (f_X5_projectsThatAre F G h0 0 I A) fun r6 =>
    some r6
  ) else (
  if p0 = 5 then (
    zb (f_X5_projectsThatAre F G h0 1 I A) fun r10 =>
    some r10
  ) else (
  if p0 = 6 then (
    zb (f_X5_projectsThatAre F G h0 2 I A) fun r14 =>
    some r14
  ) else (
  if p0 = 7 then (
    zb (f_X5_nodesOfAll F G h0 I A) fun r18 =>
    some r18
  ) else (
  if p0 = 8 then (
    zb (f_X5_firstPieces F G h0 I A) fun r22 =>
    some r22
  ) else (
  if p0 = 9 then (
    some (I h0 11)
  ) else (
  if p0 = 10 then (
    some (I h0 12)
  ) else (
    none
  )))))))))))
set_option maxHeartbeats 4000000 in
set_option maxRecDepth 100000 in
theorem c_X5_many (l : Launch) (D : va_G) (cy : Nat → ClassId) {L : List Nat} {K N : Nat → Nat} {F G : Nat → Nat → Nat} (hZ : ZL L K N F G) (h0 : Nat) (p0 : Int32) (k_h0 : K h0 = 5) (I A : zH) {r : Int32} (h : f_X5_many F G h0 p0 I A = some r) : ZMi l yX5_many cX5_many 2 (some .int) { frames := 2, cells := 0, slots := 0, locals := 42 } D cy L K N F G [.ref h0, .int p0] I A r I A := by
  refine ZMi.of (nL := 2) hZ rfl rfl (by decide) (Nat.le_of_ble_eq_true rfl) (fun p e s m args below meth c C hr => ?_)
  unfold f_X5_many at h
  refine zr_lv (lv' := [(0, .ref h0), (1, .int p0)]) C [0, 1] rfl ?_
  refine zr_iload_n C 1 rfl rfl dX5_many_0 ?_
  by_cases hc1 : p0 = 0
  · have h := zif_t hc1 h
    refine zr_tableIn (off := 59) (tgt := 60) C (by rw [hc1]; decide) (by rw [hc1]; decide) (by rw [hc1]; decide) (by decide) dX5_many_1 ?_
    refine zr_aload_n C 0 rfl rfl dX5_many_60 ?_
    refine zr_get (ci := 5) (k := 0) (v := .ref (F h0 0)) C k_h0 (by decide) rfl zinX5 (by decide) wd_158 rfl dX5_many_61 ?_
    refine zr_get (ci := 4) (k := 2) (v := .int (I (F h0 0) 2)) C (zt50 hZ k_h0) (by decide) rfl zinX4 (by decide) wd_32 rfl dX5_many_64 ?_
    obtain rfl := zso h
    exact zr_iret C hr dX5_many_67
  have h := zif_f hc1 h
  by_cases hc2 : p0 = 1
  · have h := zif_t hc2 h
    refine zr_tableIn (off := 67) (tgt := 68) C (by rw [hc2]; decide) (by rw [hc2]; decide) (by rw [hc2]; decide) (by decide) dX5_many_1 ?_
    refine zr_aload_n C 0 rfl rfl dX5_many_68 ?_
    refine zr_get (ci := 5) (k := 8) (v := .int (I h0 8)) C k_h0 (by decide) rfl zinX5 (by decide) wd_166 rfl dX5_many_69 ?_
    obtain rfl := zso h
    exact zr_iret C hr dX5_many_72
  have h := zif_f hc2 h
  by_cases hc3 : p0 = 2
  · have h := zif_t hc3 h
    refine zr_tableIn (off := 72) (tgt := 73) C (by rw [hc3]; decide) (by rw [hc3]; decide) (by rw [hc3]; decide) (by decide) dX5_many_1 ?_
    refine zr_aload_n C 0 rfl rfl dX5_many_73 ?_
    refine zr_get (ci := 5) (k := 9) (v := .int (I h0 9)) C k_h0 (by decide) rfl zinX5 (by decide) wd_167 rfl dX5_many_74 ?_
    obtain rfl := zso h
    exact zr_iret C hr dX5_many_77
  have h := zif_f hc3 h
  by_cases hc4 : p0 = 3
  · have h := zif_t hc4 h
    refine zr_tableIn (off := 77) (tgt := 78) C (by rw [hc4]; decide) (by rw [hc4]; decide) (by rw [hc4]; decide) (by decide) dX5_many_1 ?_
    refine zr_aload_n C 0 rfl rfl dX5_many_78 ?_
    refine zr_get (ci := 5) (k := 10) (v := .int (I h0 10)) C k_h0 (by decide) rfl zinX5 (by decide) wd_168 rfl dX5_many_79 ?_
    obtain rfl := zso h
    exact zr_iret C hr dX5_many_82
  have h := zif_f hc4 h
  by_cases hc5 : p0 = 4
  · have h := zif_t hc5 h
    refine zr_tableIn (off := 82) (tgt := 83) C (by rw [hc5]; decide) (by rw [hc5]; decide) (by rw [hc5]; decide) (by decide) dX5_many_1 ?_
    refine zr_aload_n C 0 rfl rfl dX5_many_83 ?_
    refine zr_iconst (v := 0) C (by decide) dX5_many_84 ?_
    obtain ⟨r6, h7, h⟩ := zb_e h
    refine zr_callVi (n := 1) (As := [.int 0]) C (c_X5_projectsThatAre l D cy hZ h0 0 k_h0 I A h7) wd_511 wd_513 wp_18 wd_1 wd_514 (by decide +kernel) ⟨(Nat.le_of_ble_eq_true rfl), (Nat.le_of_ble_eq_true rfl)⟩ rfl rfl ⟨Nat.le_refl _, Nat.le_refl _⟩ k_h0 (by decide) rfl rfl rfl (Nat.le_of_ble_eq_true rfl) dX5_many_85 ?_
    obtain rfl := zso h
    exact zr_iret C hr dX5_many_88
  have h := zif_f hc5 h
  by_cases hc9 : p0 = 5
  · have h := zif_t hc9 h
    refine zr_tableIn (off := 88) (tgt := 89) C (by rw [hc9]; decide) (by rw [hc9]; decide) (by rw [hc9]; decide) (by decide) dX5_many_1 ?_
    refine zr_aload_n C 0 rfl rfl dX5_many_89 ?_
    refine zr_iconst (v := 1) C (by decide) dX5_many_90 ?_
    obtain ⟨r10, h11, h⟩ := zb_e h
    refine zr_callVi (n := 1) (As := [.int 1]) C (c_X5_projectsThatAre l D cy hZ h0 1 k_h0 I A h11) wd_511 wd_513 wp_18 wd_1 wd_514 (by decide +kernel) ⟨(Nat.le_of_ble_eq_true rfl), (Nat.le_of_ble_eq_true rfl)⟩ rfl rfl ⟨Nat.le_refl _, Nat.le_refl _⟩ k_h0 (by decide) rfl rfl rfl (Nat.le_of_ble_eq_true rfl) dX5_many_91 ?_
    obtain rfl := zso h
    exact zr_iret C hr dX5_many_94
  have h := zif_f hc9 h
  by_cases hc13 : p0 = 6
  · have h := zif_t hc13 h
    refine zr_tableIn (off := 94) (tgt := 95) C (by rw [hc13]; decide) (by rw [hc13]; decide) (by rw [hc13]; decide) (by decide) dX5_many_1 ?_
    refine zr_aload_n C 0 rfl rfl dX5_many_95 ?_
    refine zr_iconst (v := 2) C (by decide) dX5_many_96 ?_
    obtain ⟨r14, h15, h⟩ := zb_e h
    refine zr_callVi (n := 1) (As := [.int 2]) C (c_X5_projectsThatAre l D cy hZ h0 2 k_h0 I A h15) wd_511 wd_513 wp_18 wd_1 wd_514 (by decide +kernel) ⟨(Nat.le_of_ble_eq_true rfl), (Nat.le_of_ble_eq_true rfl)⟩ rfl rfl ⟨Nat.le_refl _, Nat.le_refl _⟩ k_h0 (by decide) rfl rfl rfl (Nat.le_of_ble_eq_true rfl) dX5_many_97 ?_
    obtain rfl := zso h
    exact zr_iret C hr dX5_many_100
  have h := zif_f hc13 h
  by_cases hc17 : p0 = 7
  · have h := zif_t hc17 h
    refine zr_tableIn (off := 100) (tgt := 101) C (by rw [hc17]; decide) (by rw [hc17]; decide) (by rw [hc17]; decide) (by decide) dX5_many_1 ?_
    refine zr_aload_n C 0 rfl rfl dX5_many_101 ?_
    obtain ⟨r18, h19, h⟩ := zb_e h
    refine zr_callVi (n := 0) (As := []) C (c_X5_nodesOfAll l D cy hZ h0 k_h0 I A h19) wd_515 wd_517 wp_19 wd_1 wd_518 (by decide +kernel) ⟨(Nat.le_of_ble_eq_true rfl), (Nat.le_of_ble_eq_true rfl)⟩ rfl rfl ⟨Nat.le_refl _, Nat.le_refl _⟩ k_h0 (by decide) rfl rfl rfl (Nat.le_of_ble_eq_true rfl) dX5_many_102 ?_
    obtain rfl := zso h
    exact zr_iret C hr dX5_many_105
  have h := zif_f hc17 h
  by_cases hc21 : p0 = 8
  · have h := zif_t hc21 h
    refine zr_tableIn (off := 105) (tgt := 106) C (by rw [hc21]; decide) (by rw [hc21]; decide) (by rw [hc21]; decide) (by decide) dX5_many_1 ?_
    refine zr_aload_n C 0 rfl rfl dX5_many_106 ?_
    obtain ⟨r22, h23, h⟩ := zb_e h
    refine zr_callVi (n := 0) (As := []) C (c_X5_firstPieces l D cy hZ h0 k_h0 I A h23) wd_519 wd_521 wp_20 wd_1 wd_522 (by decide +kernel) ⟨(Nat.le_of_ble_eq_true rfl), (Nat.le_of_ble_eq_true rfl)⟩ rfl rfl ⟨Nat.le_refl _, Nat.le_refl _⟩ k_h0 (by decide) rfl rfl rfl (Nat.le_of_ble_eq_true rfl) dX5_many_107 ?_
    obtain rfl := zso h
    exact zr_iret C hr dX5_many_110
  have h := zif_f hc21 h
  by_cases hc25 : p0 = 9
  · have h := zif_t hc25 h
    refine zr_tableIn (off := 110) (tgt := 111) C (by rw [hc25]; decide) (by rw [hc25]; decide) (by rw [hc25]; decide) (by decide) dX5_many_1 ?_
    refine zr_aload_n C 0 rfl rfl dX5_many_111 ?_
    refine zr_get (ci := 5) (k := 11) (v := .int (I h0 11)) C k_h0 (by decide) rfl zinX5 (by decide) wd_169 rfl dX5_many_112 ?_
    obtain rfl := zso h
    exact zr_iret C hr dX5_many_115
  have h := zif_f hc25 h
  by_cases hc26 : p0 = 10
  · have h := zif_t hc26 h
    refine zr_tableIn (off := 115) (tgt := 116) C (by rw [hc26]; decide) (by rw [hc26]; decide) (by rw [hc26]; decide) (by decide) dX5_many_1 ?_
    refine zr_aload_n C 0 rfl rfl dX5_many_116 ?_
    refine zr_get (ci := 5) (k := 12) (v := .int (I h0 12)) C k_h0 (by decide) rfl zinX5 (by decide) wd_170 rfl dX5_many_117 ?_
    obtain rfl := zso h
    exact zr_iret C hr dX5_many_120
  have h := zif_f hc26 h
  refine zr_tableOut (tgt := 121) C (zsw_0_10 hc1 hc2 hc3 hc4 hc5 hc9 hc13 hc17 hc21 hc25 hc26) (by decide) dX5_many_1 ?_
  exact zno h

def f_X5_fold (F G : Nat → Nat → Nat) (p0 : Int64) (p1 : Int32) (I A : zH) : Option (Int64) :=
  some ((p0 * 31) + p1.toInt64)
set_option maxHeartbeats 4000000 in
set_option maxRecDepth 100000 in
theorem c_X5_fold (l : Launch) (D : va_G) (cy : Nat → ClassId) {L : List Nat} {K N : Nat → Nat} {F G : Nat → Nat → Nat} (hZ : ZL L K N F G) (p0 : Int64) (p1 : Int32)  (I A : zH) {r : Int64} (h : f_X5_fold F G p0 p1 I A = some r) : ZMl l yX5_fold cX5_fold 3 (some .long) { frames := 0, cells := 0, slots := 0, locals := 0 } D cy L K N F G [.long p0, .int p1] I A r I A := by
  refine ZMl.of (nL := 3) hZ rfl rfl (by decide) (Nat.le_of_ble_eq_true rfl) (fun p e s m args below meth c C hr => ?_)
  unfold f_X5_fold at h
  refine zr_lv (lv' := [(0, .long p0), (2, .int p1)]) C [0, 1] rfl ?_
  refine zr_lload_n C 0 rfl rfl dX5_fold_0 ?_
  refine zr_ldc2 (v := 31) C wd_602 dX5_fold_1 ?_
  refine zr_lmul C dX5_fold_4 ?_
  refine zr_iload_n C 1 rfl rfl dX5_fold_5 ?_
  refine zr_i2l C dX5_fold_6 ?_
  refine zr_ladd C dX5_fold_7 ?_
  obtain rfl := zso h
  exact zr_lret C hr dX5_fold_8

def f_X5_needPiece (F G : Nat → Nat → Nat) (h0 : Nat) (p0 : Int32) (I A : zH) : Option (Unit) :=
  if p0 < 0 then (
    none
  ) else (
    if p0 < (I h0 8) then (
      some ()
    ) else (
      none
    )
  )
set_option maxHeartbeats 4000000 in
set_option maxRecDepth 100000 in
theorem c_X5_needPiece (l : Launch) (D : va_G) (cy : Nat → ClassId) {L : List Nat} {K N : Nat → Nat} {F G : Nat → Nat → Nat} (hZ : ZL L K N F G) (h0 : Nat) (p0 : Int32) (k_h0 : K h0 = 5) (I A : zH) (h : f_X5_needPiece F G h0 p0 I A = some ()) : ZMv l yX5_needPiece cX5_needPiece 2 none { frames := 0, cells := 0, slots := 0, locals := 0 } D cy L K N F G [.ref h0, .int p0] I A I A := by
  refine ZMv.of (nL := 2) hZ rfl rfl (by decide) (Nat.le_of_ble_eq_true rfl) (fun p e s m args below meth c C hr => ?_)
  unfold f_X5_needPiece at h
  refine zr_lv (lv' := [(0, .ref h0), (1, .int p0)]) C [0, 1] rfl ?_
  refine zr_iload_n C 1 rfl rfl dX5_needPiece_0 ?_
  refine zr_if_lt (tgt := 12) C (by decide) dX5_needPiece_1 (fun hc1 => ?_) (fun hc1 => ?_)
  · have h := zif_t hc1 h
    exact zno h
  · have h := zif_f hc1 h
    refine zr_iload_n C 1 rfl rfl dX5_needPiece_4 ?_
    refine zr_aload_n C 0 rfl rfl dX5_needPiece_5 ?_
    refine zr_get (ci := 5) (k := 8) (v := .int (I h0 8)) C k_h0 (by decide) rfl zinX5 (by decide) wd_166 rfl dX5_needPiece_6 ?_
    refine zr_icmp_lt (tgt := 23) C (by decide) dX5_needPiece_9 (fun hc2 => ?_) (fun hc2 => ?_)
    · have h := zif_t hc2 h
      exact zr_vret C hr dX5_needPiece_23
    · have h := zif_f hc2 h
      exact zno h

def g_X5_offspring_6 (F G : Nat → Nat → Nat) (v0 : Nat) (v1 : Int32) (v2 : Int32) (v3 : Int32) (I : zH) (A : zH) : Option ((Int32 × Int32) ⊕ (Int32 × Int32)) :=
  if (I v0 8) ≤ v3 then (
    some (.inr (v2, v3))
  ) else (
    zck (¬ (v3 < 0 ∨ 16 ≤ v3.toNatClampNeg)) <|
    zb (f_X5_hasBit F G (A (F v0 3) v3.toNatClampNeg) v1 I A) fun r3 =>
    if r3 = 0 then (
      some (.inl (v2, v3 + 1))
    ) else (
      some (.inl (v2 ||| ((1 : Int32) <<< (v3 &&& 31)), v3 + 1))
    )
  )
def f_X5_offspring (F G : Nat → Nat → Nat) (h0 : Nat) (p0 : Int32) (I A : zH) : Option (Int32) :=
  zb2 (zIt (fun x => g_X5_offspring_6 F G h0 p0 x.1 x.2 I A) 2000 (0, p0 + 1)) fun i1 i2 =>
  some i1
set_option maxHeartbeats 4000000 in
set_option maxRecDepth 100000 in
theorem wb_X5_offspring_6 (l : Launch) (D : va_G) (cy : Nat → ClassId) {L : List Nat} {K N : Nat → Nat} {F G : Nat → Nat → Nat} (hZ : ZL L K N F G) {p : Program} {e : Env} {R : Room} {s : State} {m : MethodId} {args : Array Value} {below : List Frame} {meth : Method} {c : Code} {cells slots : Nat} {Q : State → Prop} (C : ZC p s m args meth c cX5_offspring yX5_offspring.cls 4 D cy L K N F G) (hRf : 1 ≤ R.frames) (hRl : 21 ≤ R.locals) (hRc : cells ≤ R.cells ∧ slots ≤ R.slots)  (v0 : Nat) (v1 : Int32) (k0 : K v0 = 5) (I : zH) (A : zH) (v2 : Int32) (v3 : Int32) (o : (Int32 × Int32) ⊕ (Int32 × Int32)) (h : g_X5_offspring_6 F G v0 v1 v2 v3 I A = some o)
    (hg : ∀ y : Int32 × Int32, o = .inl y → ZW p l e R s m args below meth c 4 D cy L K N F G cells slots Q I A 6 [(0, .ref v0), (1, .int v1), (2, .int y.1), (3, .int y.2)] [])
    (hx : ∀ y : Int32 × Int32, o = .inr y → ZW p l e R s m args below meth c 4 D cy L K N F G cells slots Q I A 39 [(0, .ref v0), (1, .int v1), (2, .int y.1), (3, .int y.2)] []) : ZW p l e R s m args below meth c 4 D cy L K N F G cells slots Q I A 6 [(0, .ref v0), (1, .int v1), (2, .int v2), (3, .int v3)] [] := by
  unfold g_X5_offspring_6 at h
  refine zr_iload_n C 3 rfl rfl dX5_offspring_6 ?_
  refine zr_aload_n C 0 rfl rfl dX5_offspring_7 ?_
  refine zr_get (ci := 5) (k := 8) (v := .int (I v0 8)) C k0 (by decide) rfl zinX5 (by decide) wd_166 rfl dX5_offspring_8 ?_
  refine zr_icmp_ge (tgt := 39) C (by decide) dX5_offspring_11 (fun hc1 => ?_) (fun hc1 => ?_)
  · have h := zif_t hc1 h
    obtain rfl := zso h
    refine zr_lv (lv' := [(0, .ref v0), (1, .int v1), (2, .int v2), (3, .int v3)]) C [0, 1, 2, 3] rfl ?_
    exact hx _ rfl
  · have h := zif_f hc1 h
    refine zr_aload_n C 0 rfl rfl dX5_offspring_14 ?_
    refine zr_get (ci := 5) (k := 3) (v := .ref (F v0 3)) C k0 (by decide) rfl zinX5 (by decide) wd_161 rfl dX5_offspring_15 ?_
    refine zr_iload_n C 3 rfl rfl dX5_offspring_18 ?_
    obtain ⟨hc2, h⟩ := zck_e h
    refine zr_iald C (zt53 hZ k0).1 (zt53 hZ k0).2 hc2 dX5_offspring_19 ?_
    refine zr_iload_n C 1 rfl rfl dX5_offspring_20 ?_
    obtain ⟨r3, h4, h⟩ := zb_e h
    refine zr_callSi (n := 2) (As := [.int (A (F v0 3) v3.toNatClampNeg), .int v1]) C (c_X5_hasBit l D cy hZ (A (F v0 3) v3.toNatClampNeg) v1 I A h4) wd_392 wd_323 wd_1 wd_324 (by decide +kernel) ⟨(Nat.le_trans (Nat.le_of_ble_eq_true rfl) hRf), (Nat.le_trans (Nat.le_of_ble_eq_true rfl) hRl)⟩ rfl rfl hRc rfl rfl (Nat.le_of_ble_eq_true rfl) dX5_offspring_21 ?_
    refine zr_if_eq (tgt := 33) C (by decide) dX5_offspring_24 (fun hc6 => ?_) (fun hc6 => ?_)
    · have h := zif_t hc6 h
      refine zr_iinc (v := v3 + 1) (lv' := [(3, .int (v3 + 1)), (0, .ref v0), (1, .int v1), (2, .int v2)]) C 3 rfl rfl (by decide) rfl dX5_offspring_33 ?_
      refine zr_goto (tgt := 6) C (by decide) dX5_offspring_36 ?_
      obtain rfl := zso h
      refine zr_lv (lv' := [(0, .ref v0), (1, .int v1), (2, .int v2), (3, .int (v3 + 1))]) C [1, 2, 3, 0] rfl ?_
      exact hg _ rfl
    · have h := zif_f hc6 h
      refine zr_iload_n C 2 rfl rfl dX5_offspring_27 ?_
      refine zr_iconst (v := 1) C (by decide) dX5_offspring_28 ?_
      refine zr_iload_n C 3 rfl rfl dX5_offspring_29 ?_
      refine zr_ishl C dX5_offspring_30 ?_
      refine zr_ior C dX5_offspring_31 ?_
      refine zr_istore_n (lv' := [(2, .int (v2 ||| ((1 : Int32) <<< (v3 &&& 31)))), (0, .ref v0), (1, .int v1), (3, .int v3)]) C rfl (by decide) rfl dX5_offspring_32 ?_
      refine zr_iinc (v := v3 + 1) (lv' := [(3, .int (v3 + 1)), (2, .int (v2 ||| ((1 : Int32) <<< (v3 &&& 31)))), (0, .ref v0), (1, .int v1)]) C 3 rfl rfl (by decide) rfl dX5_offspring_33 ?_
      refine zr_goto (tgt := 6) C (by decide) dX5_offspring_36 ?_
      obtain rfl := zso h
      refine zr_lv (lv' := [(0, .ref v0), (1, .int v1), (2, .int (v2 ||| ((1 : Int32) <<< (v3 &&& 31)))), (3, .int (v3 + 1))]) C [2, 3, 1, 0] rfl ?_
      exact hg _ rfl
set_option maxHeartbeats 4000000 in
set_option maxRecDepth 100000 in
theorem w_X5_offspring_6 (l : Launch) (D : va_G) (cy : Nat → ClassId) {L : List Nat} {K N : Nat → Nat} {F G : Nat → Nat → Nat} (hZ : ZL L K N F G) {p : Program} {e : Env} {R : Room} {s : State} {m : MethodId} {args : Array Value} {below : List Frame} {meth : Method} {c : Code} {cells slots : Nat} {Q : State → Prop} (C : ZC p s m args meth c cX5_offspring yX5_offspring.cls 4 D cy L K N F G) (hRf : 1 ≤ R.frames) (hRl : 21 ≤ R.locals) (hRc : cells ≤ R.cells ∧ slots ≤ R.slots)  (v0 : Nat) (v1 : Int32) (k0 : K v0 = 5) (I : zH) (A : zH) (n : Nat) (x : Int32 × Int32) (o : Int32 × Int32) (h : zIt (fun x => g_X5_offspring_6 F G v0 v1 x.1 x.2 I A) n x = some o)
    (hx : ZW p l e R s m args below meth c 4 D cy L K N F G cells slots Q I A 39 [(0, .ref v0), (1, .int v1), (2, .int o.1), (3, .int o.2)] []) : ZW p l e R s m args below meth c 4 D cy L K N F G cells slots Q I A 6 [(0, .ref v0), (1, .int v1), (2, .int x.1), (3, .int x.2)] [] := by
  induction n generalizing x with
  | zero => cases h
  | succ n ih =>
    unfold zIt at h
    cases hb : g_X5_offspring_6 F G v0 v1 x.1 x.2 I A with
    | none => rw [hb] at h; cases h
    | some q =>
      rw [hb] at h
      refine wb_X5_offspring_6 l D cy hZ C hRf hRl hRc v0 v1 k0 I A x.1 x.2 q hb (fun y hy => ?_) (fun y hy => ?_)
      · subst hy; exact ih y h
      · subst hy; cases h; exact hx
set_option maxHeartbeats 4000000 in
set_option maxRecDepth 100000 in
theorem c_X5_offspring (l : Launch) (D : va_G) (cy : Nat → ClassId) {L : List Nat} {K N : Nat → Nat} {F G : Nat → Nat → Nat} (hZ : ZL L K N F G) (h0 : Nat) (p0 : Int32) (k_h0 : K h0 = 5) (I A : zH) {r : Int32} (h : f_X5_offspring F G h0 p0 I A = some r) : ZMi l yX5_offspring cX5_offspring 4 (some .int) { frames := 1, cells := 0, slots := 0, locals := 21 } D cy L K N F G [.ref h0, .int p0] I A r I A := by
  refine ZMi.of (nL := 4) hZ rfl rfl (by decide) (Nat.le_of_ble_eq_true rfl) (fun p e s m args below meth c C hr => ?_)
  unfold f_X5_offspring at h
  refine zr_lv (lv' := [(0, .ref h0), (1, .int p0)]) C [0, 1] rfl ?_
  refine zr_iconst (v := 0) C (by decide) dX5_offspring_0 ?_
  refine zr_istore_n (lv' := [(2, .int 0), (0, .ref h0), (1, .int p0)]) C rfl (by decide) rfl dX5_offspring_1 ?_
  refine zr_iload_n C 2 rfl rfl dX5_offspring_2 ?_
  refine zr_iconst (v := 1) C (by decide) dX5_offspring_3 ?_
  refine zr_iadd C dX5_offspring_4 ?_
  refine zr_istore_n (lv' := [(3, .int (p0 + 1)), (2, .int 0), (0, .ref h0), (1, .int p0)]) C rfl (by decide) rfl dX5_offspring_5 ?_
  obtain ⟨i1, i2, h3, h⟩ := zb2_e h
  refine zr_lv (lv' := [(0, .ref h0), (1, .int p0), (2, .int 0), (3, .int (p0 + 1))]) C [2, 3, 1, 0] rfl ?_
  refine w_X5_offspring_6 l D cy hZ C (Nat.le_of_ble_eq_true rfl) (Nat.le_of_ble_eq_true rfl) ⟨Nat.le_refl _, Nat.le_refl _⟩ h0 p0 k_h0 I A 2000 (0, p0 + 1) (i1, i2) h3 ?_
  refine zr_iload_n C 2 rfl rfl dX5_offspring_39 ?_
  obtain rfl := zso h
  exact zr_iret C hr dX5_offspring_40

def g_X5_usesOf_4 (F G : Nat → Nat → Nat) (v0 : Nat) (v1 : Int32) (v2 : Int32) (v3 : Int32) (I : zH) (A : zH) : Option ((Int32 × Int32) ⊕ (Int32 × Int32)) :=
  if (I v0 10) ≤ v3 then (
    some (.inr (v2, v3))
  ) else (
    zck (¬ (v3 < 0 ∨ 5 ≤ v3.toNatClampNeg)) <|
    zb (f_X3_usesOf F G (G (F v0 5) v3.toNatClampNeg) v1 I A) fun r3 =>
    some (.inl (v2 + r3, v3 + 1))
  )
def f_X5_usesOf (F G : Nat → Nat → Nat) (h0 : Nat) (p0 : Int32) (I A : zH) : Option (Int32) :=
  zb2 (zIt (fun x => g_X5_usesOf_4 F G h0 p0 x.1 x.2 I A) 2000 (0, 0)) fun i1 i2 =>
  some i1
set_option maxHeartbeats 4000000 in
set_option maxRecDepth 100000 in
theorem wb_X5_usesOf_4 (l : Launch) (D : va_G) (cy : Nat → ClassId) {L : List Nat} {K N : Nat → Nat} {F G : Nat → Nat → Nat} (hZ : ZL L K N F G) {p : Program} {e : Env} {R : Room} {s : State} {m : MethodId} {args : Array Value} {below : List Frame} {meth : Method} {c : Code} {cells slots : Nat} {Q : State → Prop} (C : ZC p s m args meth c cX5_usesOf yX5_usesOf.cls 4 D cy L K N F G) (hRf : 2 ≤ R.frames) (hRl : 44 ≤ R.locals) (hRc : cells ≤ R.cells ∧ slots ≤ R.slots)  (v0 : Nat) (v1 : Int32) (k0 : K v0 = 5) (I : zH) (A : zH) (v2 : Int32) (v3 : Int32) (o : (Int32 × Int32) ⊕ (Int32 × Int32)) (h : g_X5_usesOf_4 F G v0 v1 v2 v3 I A = some o)
    (hg : ∀ y : Int32 × Int32, o = .inl y → ZW p l e R s m args below meth c 4 D cy L K N F G cells slots Q I A 4 [(0, .ref v0), (1, .int v1), (2, .int y.1), (3, .int y.2)] [])
    (hx : ∀ y : Int32 × Int32, o = .inr y → ZW p l e R s m args below meth c 4 D cy L K N F G cells slots Q I A 31 [(0, .ref v0), (1, .int v1), (2, .int y.1), (3, .int y.2)] []) : ZW p l e R s m args below meth c 4 D cy L K N F G cells slots Q I A 4 [(0, .ref v0), (1, .int v1), (2, .int v2), (3, .int v3)] [] := by
  unfold g_X5_usesOf_4 at h
  refine zr_iload_n C 3 rfl rfl dX5_usesOf_4 ?_
  refine zr_aload_n C 0 rfl rfl dX5_usesOf_5 ?_
  refine zr_get (ci := 5) (k := 10) (v := .int (I v0 10)) C k0 (by decide) rfl zinX5 (by decide) wd_168 rfl dX5_usesOf_6 ?_
  refine zr_icmp_ge (tgt := 31) C (by decide) dX5_usesOf_9 (fun hc1 => ?_) (fun hc1 => ?_)
  · have h := zif_t hc1 h
    obtain rfl := zso h
    refine zr_lv (lv' := [(0, .ref v0), (1, .int v1), (2, .int v2), (3, .int v3)]) C [0, 1, 2, 3] rfl ?_
    exact hx _ rfl
  · have h := zif_f hc1 h
    refine zr_iload_n C 2 rfl rfl dX5_usesOf_12 ?_
    refine zr_aload_n C 0 rfl rfl dX5_usesOf_13 ?_
    refine zr_get (ci := 5) (k := 5) (v := .ref (F v0 5)) C k0 (by decide) rfl zinX5 (by decide) wd_163 rfl dX5_usesOf_14 ?_
    refine zr_iload_n C 3 rfl rfl dX5_usesOf_17 ?_
    obtain ⟨hc2, h⟩ := zck_e h
    refine zr_ald9 C (zt55 hZ k0).1 (zt55 hZ k0).2 hc2 dX5_usesOf_18 ?_
    refine zr_iload_n C 1 rfl rfl dX5_usesOf_19 ?_
    obtain ⟨r3, h4, h⟩ := zb_e h
    refine zr_callVi (n := 1) (As := [.int v1]) C (c_X3_usesOf l D cy hZ (G (F v0 5) v3.toNatClampNeg) v1 (zt9 hZ (zt55 hZ k0).1 (z_ix (zt55 hZ k0).2 hc2)) I A h4) wd_397 wd_398 wd_399 wd_6 wd_400 (by decide +kernel) ⟨(Nat.le_trans (Nat.le_of_ble_eq_true rfl) hRf), (Nat.le_trans (Nat.le_of_ble_eq_true rfl) hRl)⟩ rfl rfl hRc (zt9 hZ (zt55 hZ k0).1 (z_ix (zt55 hZ k0).2 hc2)) (by decide) rfl rfl rfl (Nat.le_of_ble_eq_true rfl) dX5_usesOf_20 ?_
    refine zr_iadd C dX5_usesOf_23 ?_
    refine zr_istore_n (lv' := [(2, .int (v2 + r3)), (0, .ref v0), (1, .int v1), (3, .int v3)]) C rfl (by decide) rfl dX5_usesOf_24 ?_
    refine zr_iinc (v := v3 + 1) (lv' := [(3, .int (v3 + 1)), (2, .int (v2 + r3)), (0, .ref v0), (1, .int v1)]) C 3 rfl rfl (by decide) rfl dX5_usesOf_25 ?_
    refine zr_goto (tgt := 4) C (by decide) dX5_usesOf_28 ?_
    obtain rfl := zso h
    refine zr_lv (lv' := [(0, .ref v0), (1, .int v1), (2, .int (v2 + r3)), (3, .int (v3 + 1))]) C [2, 3, 1, 0] rfl ?_
    exact hg _ rfl
set_option maxHeartbeats 4000000 in
set_option maxRecDepth 100000 in
theorem w_X5_usesOf_4 (l : Launch) (D : va_G) (cy : Nat → ClassId) {L : List Nat} {K N : Nat → Nat} {F G : Nat → Nat → Nat} (hZ : ZL L K N F G) {p : Program} {e : Env} {R : Room} {s : State} {m : MethodId} {args : Array Value} {below : List Frame} {meth : Method} {c : Code} {cells slots : Nat} {Q : State → Prop} (C : ZC p s m args meth c cX5_usesOf yX5_usesOf.cls 4 D cy L K N F G) (hRf : 2 ≤ R.frames) (hRl : 44 ≤ R.locals) (hRc : cells ≤ R.cells ∧ slots ≤ R.slots)  (v0 : Nat) (v1 : Int32) (k0 : K v0 = 5) (I : zH) (A : zH) (n : Nat) (x : Int32 × Int32) (o : Int32 × Int32) (h : zIt (fun x => g_X5_usesOf_4 F G v0 v1 x.1 x.2 I A) n x = some o)
    (hx : ZW p l e R s m args below meth c 4 D cy L K N F G cells slots Q I A 31 [(0, .ref v0), (1, .int v1), (2, .int o.1), (3, .int o.2)] []) : ZW p l e R s m args below meth c 4 D cy L K N F G cells slots Q I A 4 [(0, .ref v0), (1, .int v1), (2, .int x.1), (3, .int x.2)] [] := by
  induction n generalizing x with
  | zero => cases h
  | succ n ih =>
    unfold zIt at h
    cases hb : g_X5_usesOf_4 F G v0 v1 x.1 x.2 I A with
    | none => rw [hb] at h; cases h
    | some q =>
      rw [hb] at h
      refine wb_X5_usesOf_4 l D cy hZ C hRf hRl hRc v0 v1 k0 I A x.1 x.2 q hb (fun y hy => ?_) (fun y hy => ?_)
      · subst hy; exact ih y h
      · subst hy; cases h; exact hx
set_option maxHeartbeats 4000000 in
set_option maxRecDepth 100000 in
theorem c_X5_usesOf (l : Launch) (D : va_G) (cy : Nat → ClassId) {L : List Nat} {K N : Nat → Nat} {F G : Nat → Nat → Nat} (hZ : ZL L K N F G) (h0 : Nat) (p0 : Int32) (k_h0 : K h0 = 5) (I A : zH) {r : Int32} (h : f_X5_usesOf F G h0 p0 I A = some r) : ZMi l yX5_usesOf cX5_usesOf 4 (some .int) { frames := 2, cells := 0, slots := 0, locals := 44 } D cy L K N F G [.ref h0, .int p0] I A r I A := by
  refine ZMi.of (nL := 4) hZ rfl rfl (by decide) (Nat.le_of_ble_eq_true rfl) (fun p e s m args below meth c C hr => ?_)
  unfold f_X5_usesOf at h
  refine zr_lv (lv' := [(0, .ref h0), (1, .int p0)]) C [0, 1] rfl ?_
  refine zr_iconst (v := 0) C (by decide) dX5_usesOf_0 ?_
  refine zr_istore_n (lv' := [(2, .int 0), (0, .ref h0), (1, .int p0)]) C rfl (by decide) rfl dX5_usesOf_1 ?_
  refine zr_iconst (v := 0) C (by decide) dX5_usesOf_2 ?_
  refine zr_istore_n (lv' := [(3, .int 0), (2, .int 0), (0, .ref h0), (1, .int p0)]) C rfl (by decide) rfl dX5_usesOf_3 ?_
  obtain ⟨i1, i2, h3, h⟩ := zb2_e h
  refine zr_lv (lv' := [(0, .ref h0), (1, .int p0), (2, .int 0), (3, .int 0)]) C [2, 3, 1, 0] rfl ?_
  refine w_X5_usesOf_4 l D cy hZ C (Nat.le_of_ble_eq_true rfl) (Nat.le_of_ble_eq_true rfl) ⟨Nat.le_refl _, Nat.le_refl _⟩ h0 p0 k_h0 I A 2000 (0, 0) (i1, i2) h3 ?_
  refine zr_iload_n C 2 rfl rfl dX5_usesOf_31 ?_
  obtain rfl := zso h
  exact zr_iret C hr dX5_usesOf_32

def f_X5_ofPiece (F G : Nat → Nat → Nat) (h0 : Nat) (p0 : Int32) (p1 : Int32) (I A : zH) : Option (Int32) :=
  zb (f_X5_needPiece F G h0 p0 I A) fun _ =>
  zck (¬ (p0 < 0 ∨ 16 ≤ p0.toNatClampNeg)) <|
  if p1 = 0 then (
    some (I (F (G (F h0 1) p0.toNatClampNeg) 0) 2)
  ) else (
  if p1 = 1 then (
    some (I (F (G (F h0 1) p0.toNatClampNeg) 0) 3)
  ) else (
  if p1 = 2 then (
    some (I (G (F h0 1) p0.toNatClampNeg) 1)
  ) else (
  if p1 = 3 then (
    zb (f_X0_licencesOf F G (F h0 6) p0 I A) fun r8 =>
    some r8
  ) else (
  if p1 = 4 then (
    some (I (G (F h0 1) p0.toNatClampNeg) 2)
  ) else (
  if p1 = 5 then (
    zck (¬ (p0 < 0 ∨ 16 ≤ p0.toNatClampNeg)) <|
    some (A (F h0 3) p0.toNatClampNeg)
  ) else (
  if p1 = 6 then (
    zb (f_X5_offspring F G h0 p0 I A) fun r15 =>
    some r15
  ) else (
  if p1 = 7 then (
    zb (f_X5_usesOf F G h0 p0 I A) fun r19 =>
    some r19
  ) else (
    none
  ))))))))
set_option maxHeartbeats 4000000 in
set_option maxRecDepth 100000 in
theorem c_X5_ofPiece (l : Launch) (D : va_G) (cy : Nat → ClassId) {L : List Nat} {K N : Nat → Nat} {F G : Nat → Nat → Nat} (hZ : ZL L K N F G) (h0 : Nat) (p0 : Int32) (p1 : Int32) (k_h0 : K h0 = 5) (I A : zH) {r : Int32} (h : f_X5_ofPiece F G h0 p0 p1 I A = some r) : ZMi l yX5_ofPiece cX5_ofPiece 4 (some .int) { frames := 3, cells := 0, slots := 0, locals := 67 } D cy L K N F G [.ref h0, .int p0, .int p1] I A r I A := by
  refine ZMi.of (nL := 4) hZ rfl rfl (by decide) (Nat.le_of_ble_eq_true rfl) (fun p e s m args below meth c C hr => ?_)
  unfold f_X5_ofPiece at h
  refine zr_lv (lv' := [(0, .ref h0), (1, .int p0), (2, .int p1)]) C [0, 1, 2] rfl ?_
  refine zr_aload_n C 0 rfl rfl dX5_ofPiece_0 ?_
  refine zr_iload_n C 1 rfl rfl dX5_ofPiece_1 ?_
  obtain ⟨_, h1, h⟩ := zb_e h
  refine zr_callVv (n := 1) (As := [.int p0]) C (c_X5_needPiece l D cy hZ h0 p0 k_h0 I A h1) wd_368 wd_370 wp_10 wd_1 wd_371 (by decide +kernel) ⟨(Nat.le_of_ble_eq_true rfl), (Nat.le_of_ble_eq_true rfl)⟩ rfl rfl ⟨Nat.le_refl _, Nat.le_refl _⟩ k_h0 (by decide) rfl rfl rfl (Nat.le_of_ble_eq_true rfl) dX5_ofPiece_2 ?_
  refine zr_aload_n C 0 rfl rfl dX5_ofPiece_5 ?_
  refine zr_get (ci := 5) (k := 1) (v := .ref (F h0 1)) C k_h0 (by decide) rfl zinX5 (by decide) wd_159 rfl dX5_ofPiece_6 ?_
  refine zr_iload_n C 1 rfl rfl dX5_ofPiece_9 ?_
  obtain ⟨hc3, h⟩ := zck_e h
  refine zr_ald8 C (zt51 hZ k_h0).1 (zt51 hZ k_h0).2 hc3 dX5_ofPiece_10 ?_
  refine zr_astore_n (lv' := [(3, .ref (G (F h0 1) p0.toNatClampNeg)), (0, .ref h0), (1, .int p0), (2, .int p1)]) C rfl (by decide) rfl dX5_ofPiece_11 ?_
  refine zr_iload_n C 3 rfl rfl dX5_ofPiece_12 ?_
  by_cases hc4 : p1 = 0
  · have h := zif_t hc4 h
    refine zr_tableIn (off := 47) (tgt := 60) C (by rw [hc4]; decide) (by rw [hc4]; decide) (by rw [hc4]; decide) (by decide) dX5_ofPiece_13 ?_
    refine zr_aload_n C 0 rfl rfl dX5_ofPiece_60 ?_
    refine zr_get (ci := 2) (k := 0) (v := .ref (F (G (F h0 1) p0.toNatClampNeg) 0)) C (zt8 hZ (zt51 hZ k_h0).1 (z_ix (zt51 hZ k_h0).2 hc3)) (by decide) rfl zinX2 (by decide) wd_80 rfl dX5_ofPiece_61 ?_
    refine zr_get (ci := 4) (k := 2) (v := .int (I (F (G (F h0 1) p0.toNatClampNeg) 0) 2)) C (zt2 hZ (zt8 hZ (zt51 hZ k_h0).1 (z_ix (zt51 hZ k_h0).2 hc3))) (by decide) rfl zinX4 (by decide) wd_32 rfl dX5_ofPiece_64 ?_
    obtain rfl := zso h
    exact zr_iret C hr dX5_ofPiece_67
  have h := zif_f hc4 h
  by_cases hc5 : p1 = 1
  · have h := zif_t hc5 h
    refine zr_tableIn (off := 55) (tgt := 68) C (by rw [hc5]; decide) (by rw [hc5]; decide) (by rw [hc5]; decide) (by decide) dX5_ofPiece_13 ?_
    refine zr_aload_n C 0 rfl rfl dX5_ofPiece_68 ?_
    refine zr_get (ci := 2) (k := 0) (v := .ref (F (G (F h0 1) p0.toNatClampNeg) 0)) C (zt8 hZ (zt51 hZ k_h0).1 (z_ix (zt51 hZ k_h0).2 hc3)) (by decide) rfl zinX2 (by decide) wd_80 rfl dX5_ofPiece_69 ?_
    refine zr_get (ci := 4) (k := 3) (v := .int (I (F (G (F h0 1) p0.toNatClampNeg) 0) 3)) C (zt2 hZ (zt8 hZ (zt51 hZ k_h0).1 (z_ix (zt51 hZ k_h0).2 hc3))) (by decide) rfl zinX4 (by decide) wd_34 rfl dX5_ofPiece_72 ?_
    obtain rfl := zso h
    exact zr_iret C hr dX5_ofPiece_75
  have h := zif_f hc5 h
  by_cases hc6 : p1 = 2
  · have h := zif_t hc6 h
    refine zr_tableIn (off := 63) (tgt := 76) C (by rw [hc6]; decide) (by rw [hc6]; decide) (by rw [hc6]; decide) (by decide) dX5_ofPiece_13 ?_
    refine zr_aload_n C 0 rfl rfl dX5_ofPiece_76 ?_
    refine zr_get (ci := 2) (k := 1) (v := .int (I (G (F h0 1) p0.toNatClampNeg) 1)) C (zt8 hZ (zt51 hZ k_h0).1 (z_ix (zt51 hZ k_h0).2 hc3)) (by decide) rfl zinX2 (by decide) wd_82 rfl dX5_ofPiece_77 ?_
    obtain rfl := zso h
    exact zr_iret C hr dX5_ofPiece_80
  have h := zif_f hc6 h
  by_cases hc7 : p1 = 3
  · have h := zif_t hc7 h
    refine zr_tableIn (off := 68) (tgt := 81) C (by rw [hc7]; decide) (by rw [hc7]; decide) (by rw [hc7]; decide) (by decide) dX5_ofPiece_13 ?_
    refine zr_aload_n C 1 rfl rfl dX5_ofPiece_81 ?_
    refine zr_get (ci := 5) (k := 6) (v := .ref (F h0 6)) C k_h0 (by decide) rfl zinX5 (by decide) wd_164 rfl dX5_ofPiece_82 ?_
    refine zr_iload_n C 2 rfl rfl dX5_ofPiece_85 ?_
    obtain ⟨r8, h9, h⟩ := zb_e h
    refine zr_callVi (n := 1) (As := [.int p0]) C (c_X0_licencesOf l D cy hZ (F h0 6) p0 (zt56 hZ k_h0) I A h9) wd_314 wd_315 wd_316 wd_3 wd_317 (by decide +kernel) ⟨(Nat.le_of_ble_eq_true rfl), (Nat.le_of_ble_eq_true rfl)⟩ rfl rfl ⟨Nat.le_refl _, Nat.le_refl _⟩ (zt56 hZ k_h0) (by decide) rfl rfl rfl (Nat.le_of_ble_eq_true rfl) dX5_ofPiece_86 ?_
    obtain rfl := zso h
    exact zr_iret C hr dX5_ofPiece_89
  have h := zif_f hc7 h
  by_cases hc11 : p1 = 4
  · have h := zif_t hc11 h
    refine zr_tableIn (off := 77) (tgt := 90) C (by rw [hc11]; decide) (by rw [hc11]; decide) (by rw [hc11]; decide) (by decide) dX5_ofPiece_13 ?_
    refine zr_aload_n C 0 rfl rfl dX5_ofPiece_90 ?_
    refine zr_get (ci := 2) (k := 2) (v := .int (I (G (F h0 1) p0.toNatClampNeg) 2)) C (zt8 hZ (zt51 hZ k_h0).1 (z_ix (zt51 hZ k_h0).2 hc3)) (by decide) rfl zinX2 (by decide) wd_84 rfl dX5_ofPiece_91 ?_
    obtain rfl := zso h
    exact zr_iret C hr dX5_ofPiece_94
  have h := zif_f hc11 h
  by_cases hc12 : p1 = 5
  · have h := zif_t hc12 h
    refine zr_tableIn (off := 82) (tgt := 95) C (by rw [hc12]; decide) (by rw [hc12]; decide) (by rw [hc12]; decide) (by decide) dX5_ofPiece_13 ?_
    refine zr_aload_n C 1 rfl rfl dX5_ofPiece_95 ?_
    refine zr_get (ci := 5) (k := 3) (v := .ref (F h0 3)) C k_h0 (by decide) rfl zinX5 (by decide) wd_161 rfl dX5_ofPiece_96 ?_
    refine zr_iload_n C 2 rfl rfl dX5_ofPiece_99 ?_
    obtain ⟨hc13, h⟩ := zck_e h
    refine zr_iald C (zt53 hZ k_h0).1 (zt53 hZ k_h0).2 hc13 dX5_ofPiece_100 ?_
    obtain rfl := zso h
    exact zr_iret C hr dX5_ofPiece_101
  have h := zif_f hc12 h
  by_cases hc14 : p1 = 6
  · have h := zif_t hc14 h
    refine zr_tableIn (off := 89) (tgt := 102) C (by rw [hc14]; decide) (by rw [hc14]; decide) (by rw [hc14]; decide) (by decide) dX5_ofPiece_13 ?_
    refine zr_aload_n C 1 rfl rfl dX5_ofPiece_102 ?_
    refine zr_iload_n C 2 rfl rfl dX5_ofPiece_103 ?_
    obtain ⟨r15, h16, h⟩ := zb_e h
    refine zr_callVi (n := 1) (As := [.int p0]) C (c_X5_offspring l D cy hZ h0 p0 k_h0 I A h16) wd_388 wd_390 wp_11 wd_1 wd_391 (by decide +kernel) ⟨(Nat.le_of_ble_eq_true rfl), (Nat.le_of_ble_eq_true rfl)⟩ rfl rfl ⟨Nat.le_refl _, Nat.le_refl _⟩ k_h0 (by decide) rfl rfl rfl (Nat.le_of_ble_eq_true rfl) dX5_ofPiece_104 ?_
    obtain rfl := zso h
    exact zr_iret C hr dX5_ofPiece_107
  have h := zif_f hc14 h
  by_cases hc18 : p1 = 7
  · have h := zif_t hc18 h
    refine zr_tableIn (off := 95) (tgt := 108) C (by rw [hc18]; decide) (by rw [hc18]; decide) (by rw [hc18]; decide) (by decide) dX5_ofPiece_13 ?_
    refine zr_aload_n C 1 rfl rfl dX5_ofPiece_108 ?_
    refine zr_iload_n C 2 rfl rfl dX5_ofPiece_109 ?_
    obtain ⟨r19, h20, h⟩ := zb_e h
    refine zr_callVi (n := 1) (As := [.int p0]) C (c_X5_usesOf l D cy hZ h0 p0 k_h0 I A h20) wd_393 wd_395 wp_12 wd_1 wd_396 (by decide +kernel) ⟨(Nat.le_of_ble_eq_true rfl), (Nat.le_of_ble_eq_true rfl)⟩ rfl rfl ⟨Nat.le_refl _, Nat.le_refl _⟩ k_h0 (by decide) rfl rfl rfl (Nat.le_of_ble_eq_true rfl) dX5_ofPiece_110 ?_
    obtain rfl := zso h
    exact zr_iret C hr dX5_ofPiece_113
  have h := zif_f hc18 h
  refine zr_tableOut (tgt := 114) C (zsw_0_7 hc4 hc5 hc6 hc7 hc11 hc12 hc14 hc18) (by decide) dX5_ofPiece_13 ?_
  exact zno h

def f_X5_scan (F G : Nat → Nat → Nat) (h0 : Nat) (p0 : Int32) (I A : zH) : Option (Int32) :=
  zb (f_X5_needPiece F G h0 p0 I A) fun _ =>
  zck (¬ (p0 < 0 ∨ 16 ≤ p0.toNatClampNeg)) <|
  zb (f_X4_shareWith F G (F h0 0) (F (G (F h0 1) p0.toNatClampNeg) 0) I A) fun r4 =>
  some r4
set_option maxHeartbeats 4000000 in
set_option maxRecDepth 100000 in
theorem c_X5_scan (l : Launch) (D : va_G) (cy : Nat → ClassId) {L : List Nat} {K N : Nat → Nat} {F G : Nat → Nat → Nat} (hZ : ZL L K N F G) (h0 : Nat) (p0 : Int32) (k_h0 : K h0 = 5) (I A : zH) {r : Int32} (h : f_X5_scan F G h0 p0 I A = some r) : ZMi l yX5_scan cX5_scan 2 (some .int) { frames := 2, cells := 0, slots := 0, locals := 46 } D cy L K N F G [.ref h0, .int p0] I A r I A := by
  refine ZMi.of (nL := 2) hZ rfl rfl (by decide) (Nat.le_of_ble_eq_true rfl) (fun p e s m args below meth c C hr => ?_)
  unfold f_X5_scan at h
  refine zr_lv (lv' := [(0, .ref h0), (1, .int p0)]) C [0, 1] rfl ?_
  refine zr_aload_n C 0 rfl rfl dX5_scan_0 ?_
  refine zr_iload_n C 1 rfl rfl dX5_scan_1 ?_
  obtain ⟨_, h1, h⟩ := zb_e h
  refine zr_callVv (n := 1) (As := [.int p0]) C (c_X5_needPiece l D cy hZ h0 p0 k_h0 I A h1) wd_368 wd_370 wp_10 wd_1 wd_371 (by decide +kernel) ⟨(Nat.le_of_ble_eq_true rfl), (Nat.le_of_ble_eq_true rfl)⟩ rfl rfl ⟨Nat.le_refl _, Nat.le_refl _⟩ k_h0 (by decide) rfl rfl rfl (Nat.le_of_ble_eq_true rfl) dX5_scan_2 ?_
  refine zr_aload_n C 0 rfl rfl dX5_scan_5 ?_
  refine zr_get (ci := 5) (k := 0) (v := .ref (F h0 0)) C k_h0 (by decide) rfl zinX5 (by decide) wd_158 rfl dX5_scan_6 ?_
  refine zr_aload_n C 0 rfl rfl dX5_scan_9 ?_
  refine zr_get (ci := 5) (k := 1) (v := .ref (F h0 1)) C k_h0 (by decide) rfl zinX5 (by decide) wd_159 rfl dX5_scan_10 ?_
  refine zr_iload_n C 1 rfl rfl dX5_scan_13 ?_
  obtain ⟨hc3, h⟩ := zck_e h
  refine zr_ald8 C (zt51 hZ k_h0).1 (zt51 hZ k_h0).2 hc3 dX5_scan_14 ?_
  refine zr_get (ci := 2) (k := 0) (v := .ref (F (G (F h0 1) p0.toNatClampNeg) 0)) C (zt8 hZ (zt51 hZ k_h0).1 (z_ix (zt51 hZ k_h0).2 hc3)) (by decide) rfl zinX2 (by decide) wd_80 rfl dX5_scan_15 ?_
  obtain ⟨r4, h5, h⟩ := zb_e h
  refine zr_callVi (n := 1) (As := [.ref (F (G (F h0 1) p0.toNatClampNeg) 0)]) C (c_X4_shareWith l D cy hZ (F h0 0) (F (G (F h0 1) p0.toNatClampNeg) 0) (zt50 hZ k_h0) (zt2 hZ (zt8 hZ (zt51 hZ k_h0).1 (z_ix (zt51 hZ k_h0).2 hc3))) I A h5) wd_295 wd_296 wd_297 wd_2 wd_298 (by decide +kernel) ⟨(Nat.le_of_ble_eq_true rfl), (Nat.le_of_ble_eq_true rfl)⟩ rfl rfl ⟨Nat.le_refl _, Nat.le_refl _⟩ (zt50 hZ k_h0) (by decide) rfl rfl rfl (Nat.le_of_ble_eq_true rfl) dX5_scan_18 ?_
  obtain rfl := zso h
  exact zr_iret C hr dX5_scan_21

def f_X5_share (F G : Nat → Nat → Nat) (h0 : Nat) (p0 : Int32) (p1 : Int32) (I A : zH) : Option (Int32) :=
  zb (f_X5_needPiece F G h0 p0 I A) fun _ =>
  zb (f_X5_needPiece F G h0 p1 I A) fun _ =>
  zck (¬ (p0 < 0 ∨ 16 ≤ p0.toNatClampNeg)) <|
  zck (¬ (p1 < 0 ∨ 16 ≤ p1.toNatClampNeg)) <|
  some (A (G (F h0 2) p0.toNatClampNeg) p1.toNatClampNeg)
set_option maxHeartbeats 4000000 in
set_option maxRecDepth 100000 in
theorem c_X5_share (l : Launch) (D : va_G) (cy : Nat → ClassId) {L : List Nat} {K N : Nat → Nat} {F G : Nat → Nat → Nat} (hZ : ZL L K N F G) (h0 : Nat) (p0 : Int32) (p1 : Int32) (k_h0 : K h0 = 5) (I A : zH) {r : Int32} (h : f_X5_share F G h0 p0 p1 I A = some r) : ZMi l yX5_share cX5_share 3 (some .int) { frames := 1, cells := 0, slots := 0, locals := 21 } D cy L K N F G [.ref h0, .int p0, .int p1] I A r I A := by
  refine ZMi.of (nL := 3) hZ rfl rfl (by decide) (Nat.le_of_ble_eq_true rfl) (fun p e s m args below meth c C hr => ?_)
  unfold f_X5_share at h
  refine zr_lv (lv' := [(0, .ref h0), (1, .int p0), (2, .int p1)]) C [0, 1, 2] rfl ?_
  refine zr_aload_n C 0 rfl rfl dX5_share_0 ?_
  refine zr_iload_n C 1 rfl rfl dX5_share_1 ?_
  obtain ⟨_, h1, h⟩ := zb_e h
  refine zr_callVv (n := 1) (As := [.int p0]) C (c_X5_needPiece l D cy hZ h0 p0 k_h0 I A h1) wd_368 wd_370 wp_10 wd_1 wd_371 (by decide +kernel) ⟨(Nat.le_of_ble_eq_true rfl), (Nat.le_of_ble_eq_true rfl)⟩ rfl rfl ⟨Nat.le_refl _, Nat.le_refl _⟩ k_h0 (by decide) rfl rfl rfl (Nat.le_of_ble_eq_true rfl) dX5_share_2 ?_
  refine zr_aload_n C 0 rfl rfl dX5_share_5 ?_
  refine zr_iload_n C 2 rfl rfl dX5_share_6 ?_
  obtain ⟨_, h3, h⟩ := zb_e h
  refine zr_callVv (n := 1) (As := [.int p1]) C (c_X5_needPiece l D cy hZ h0 p1 k_h0 I A h3) wd_368 wd_370 wp_10 wd_1 wd_371 (by decide +kernel) ⟨(Nat.le_of_ble_eq_true rfl), (Nat.le_of_ble_eq_true rfl)⟩ rfl rfl ⟨Nat.le_refl _, Nat.le_refl _⟩ k_h0 (by decide) rfl rfl rfl (Nat.le_of_ble_eq_true rfl) dX5_share_7 ?_
  refine zr_aload_n C 0 rfl rfl dX5_share_10 ?_
  refine zr_get (ci := 5) (k := 2) (v := .ref (F h0 2)) C k_h0 (by decide) rfl zinX5 (by decide) wd_160 rfl dX5_share_11 ?_
  refine zr_iload_n C 1 rfl rfl dX5_share_14 ?_
  obtain ⟨hc5, h⟩ := zck_e h
  refine zr_ald10 C (zt52 hZ k_h0).1 (zt52 hZ k_h0).2 hc5 dX5_share_15 ?_
  refine zr_iload_n C 2 rfl rfl dX5_share_16 ?_
  obtain ⟨hc6, h⟩ := zck_e h
  refine zr_iald C (zt10 hZ (zt52 hZ k_h0).1 (z_ix (zt52 hZ k_h0).2 hc5)).1 (zt10 hZ (zt52 hZ k_h0).1 (z_ix (zt52 hZ k_h0).2 hc5)).2 hc6 dX5_share_17 ?_
  obtain rfl := zso h
  exact zr_iret C hr dX5_share_18
end
section
def g_X5_foldPiece_6 (F G : Nat → Nat → Nat) (v0 : Nat) (v3 : Int32) (v4 : Int64) (v6 : Int32) (I : zH) (A : zH) : Option ((Int64 × Int32) ⊕ (Int64 × Int32)) :=
  if 8 ≤ v6 then (
    some (.inr (v4, v6))
  ) else (
    zb (f_X5_ofPiece F G v0 v3 v6 I A) fun r2 =>
    zb (f_X5_fold F G v4 r2 I A) fun r5 =>
    some (.inl (r5, v6 + 1))
  )
def f_X5_foldPiece (F G : Nat → Nat → Nat) (h0 : Nat) (p0 : Int64) (p1 : Int32) (I A : zH) : Option (Int64) :=
  zb2 (zIt (fun x => g_X5_foldPiece_6 F G h0 p1 x.1 x.2 I A) 2000 (p0, 0)) fun j1 i2 =>
  zb (f_X5_scan F G h0 p1 I A) fun r3 =>
  zb (f_X5_fold F G j1 r3 I A) fun r6 =>
  if (I h0 8) ≤ (p1 + 1) then (
    some r6
  ) else (
    zb (f_X5_share F G h0 p1 (p1 + 1) I A) fun r10 =>
    zb (f_X5_fold F G r6 r10 I A) fun r13 =>
    some r13
  )
set_option maxHeartbeats 4000000 in
set_option maxRecDepth 100000 in
theorem wb_X5_foldPiece_6 (l : Launch) (D : va_G) (cy : Nat → ClassId) {L : List Nat} {K N : Nat → Nat} {F G : Nat → Nat → Nat} (hZ : ZL L K N F G) {p : Program} {e : Env} {R : Room} {s : State} {m : MethodId} {args : Array Value} {below : List Frame} {meth : Method} {c : Code} {cells slots : Nat} {Q : State → Prop} (C : ZC p s m args meth c cX5_foldPiece yX5_foldPiece.cls 7 D cy L K N F G) (hRf : 4 ≤ R.frames) (hRl : 90 ≤ R.locals) (hRc : cells ≤ R.cells ∧ slots ≤ R.slots)  (v0 : Nat) (v3 : Int32) (k0 : K v0 = 5) (I : zH) (A : zH) (v4 : Int64) (v6 : Int32) (o : (Int64 × Int32) ⊕ (Int64 × Int32)) (h : g_X5_foldPiece_6 F G v0 v3 v4 v6 I A = some o)
    (hg : ∀ y : Int64 × Int32, o = .inl y → ZW p l e R s m args below meth c 7 D cy L K N F G cells slots Q I A 6 [(0, .ref v0), (3, .int v3), (4, .long y.1), (6, .int y.2)] [])
    (hx : ∀ y : Int64 × Int32, o = .inr y → ZW p l e R s m args below meth c 7 D cy L K N F G cells slots Q I A 33 [(0, .ref v0), (3, .int v3), (4, .long y.1), (6, .int y.2)] []) : ZW p l e R s m args below meth c 7 D cy L K N F G cells slots Q I A 6 [(0, .ref v0), (3, .int v3), (4, .long v4), (6, .int v6)] [] := by
  unfold g_X5_foldPiece_6 at h
  refine zr_iload C 3 rfl dX5_foldPiece_6 ?_
  refine zr_bipush (v := 8) C (by decide) dX5_foldPiece_8 ?_
  refine zr_icmp_ge (tgt := 33) C (by decide) dX5_foldPiece_10 (fun hc1 => ?_) (fun hc1 => ?_)
  · have h := zif_t hc1 h
    obtain rfl := zso h
    refine zr_lv (lv' := [(0, .ref v0), (3, .int v3), (4, .long v4), (6, .int v6)]) C [0, 1, 2, 3] rfl ?_
    exact hx _ rfl
  · have h := zif_f hc1 h
    refine zr_lload C 2 rfl dX5_foldPiece_13 ?_
    refine zr_aload_n C 0 rfl rfl dX5_foldPiece_15 ?_
    refine zr_iload_n C 1 rfl rfl dX5_foldPiece_16 ?_
    refine zr_iload C 3 rfl dX5_foldPiece_17 ?_
    obtain ⟨r2, h3, h⟩ := zb_e h
    refine zr_callVi (n := 2) (As := [.int v3, .int v6]) C (c_X5_ofPiece l D cy hZ v0 v3 v6 k0 I A h3) wd_607 wd_365 wd_366 wd_1 wd_367 (by decide +kernel) ⟨(Nat.le_trans (Nat.le_of_ble_eq_true rfl) hRf), (Nat.le_trans (Nat.le_of_ble_eq_true rfl) hRl)⟩ rfl rfl hRc k0 (by decide) rfl rfl rfl (Nat.le_of_ble_eq_true rfl) dX5_foldPiece_19 ?_
    obtain ⟨r5, h6, h⟩ := zb_e h
    refine zr_callSl (n := 2) (As := [.long v4, .int r2]) C (c_X5_fold l D cy hZ v4 r2 I A h6) wd_599 wd_600 wd_1 wd_601 (by decide +kernel) ⟨(Nat.le_trans (Nat.le_of_ble_eq_true rfl) hRf), (Nat.le_trans (Nat.le_of_ble_eq_true rfl) hRl)⟩ rfl rfl hRc rfl rfl (Nat.le_of_ble_eq_true rfl) dX5_foldPiece_22 ?_
    refine zr_lstore (lv' := [(4, .long r5), (0, .ref v0), (3, .int v3), (6, .int v6)]) C (by decide) rfl dX5_foldPiece_25 ?_
    refine zr_iinc (v := v6 + 1) (lv' := [(6, .int (v6 + 1)), (4, .long r5), (0, .ref v0), (3, .int v3)]) C 3 rfl rfl (by decide) rfl dX5_foldPiece_27 ?_
    refine zr_goto (tgt := 6) C (by decide) dX5_foldPiece_30 ?_
    obtain rfl := zso h
    refine zr_lv (lv' := [(0, .ref v0), (3, .int v3), (4, .long r5), (6, .int (v6 + 1))]) C [2, 3, 1, 0] rfl ?_
    exact hg _ rfl
set_option maxHeartbeats 4000000 in
set_option maxRecDepth 100000 in
theorem w_X5_foldPiece_6 (l : Launch) (D : va_G) (cy : Nat → ClassId) {L : List Nat} {K N : Nat → Nat} {F G : Nat → Nat → Nat} (hZ : ZL L K N F G) {p : Program} {e : Env} {R : Room} {s : State} {m : MethodId} {args : Array Value} {below : List Frame} {meth : Method} {c : Code} {cells slots : Nat} {Q : State → Prop} (C : ZC p s m args meth c cX5_foldPiece yX5_foldPiece.cls 7 D cy L K N F G) (hRf : 4 ≤ R.frames) (hRl : 90 ≤ R.locals) (hRc : cells ≤ R.cells ∧ slots ≤ R.slots)  (v0 : Nat) (v3 : Int32) (k0 : K v0 = 5) (I : zH) (A : zH) (n : Nat) (x : Int64 × Int32) (o : Int64 × Int32) (h : zIt (fun x => g_X5_foldPiece_6 F G v0 v3 x.1 x.2 I A) n x = some o)
    (hx : ZW p l e R s m args below meth c 7 D cy L K N F G cells slots Q I A 33 [(0, .ref v0), (3, .int v3), (4, .long o.1), (6, .int o.2)] []) : ZW p l e R s m args below meth c 7 D cy L K N F G cells slots Q I A 6 [(0, .ref v0), (3, .int v3), (4, .long x.1), (6, .int x.2)] [] := by
  induction n generalizing x with
  | zero => cases h
  | succ n ih =>
    unfold zIt at h
    cases hb : g_X5_foldPiece_6 F G v0 v3 x.1 x.2 I A with
    | none => rw [hb] at h; cases h
    | some q =>
      rw [hb] at h
      refine wb_X5_foldPiece_6 l D cy hZ C hRf hRl hRc v0 v3 k0 I A x.1 x.2 q hb (fun y hy => ?_) (fun y hy => ?_)
      · subst hy; exact ih y h
      · subst hy; cases h; exact hx
set_option maxHeartbeats 4000000 in
set_option maxRecDepth 100000 in
theorem c_X5_foldPiece (l : Launch) (D : va_G) (cy : Nat → ClassId) {L : List Nat} {K N : Nat → Nat} {F G : Nat → Nat → Nat} (hZ : ZL L K N F G) (h0 : Nat) (p0 : Int64) (p1 : Int32) (k_h0 : K h0 = 5) (I A : zH) {r : Int64} (h : f_X5_foldPiece F G h0 p0 p1 I A = some r) : ZMl l yX5_foldPiece cX5_foldPiece 7 (some .long) { frames := 4, cells := 0, slots := 0, locals := 90 } D cy L K N F G [.ref h0, .long p0, .int p1] I A r I A := by
  refine ZMl.of (nL := 7) hZ rfl rfl (by decide) (Nat.le_of_ble_eq_true rfl) (fun p e s m args below meth c C hr => ?_)
  unfold f_X5_foldPiece at h
  refine zr_lv (lv' := [(0, .ref h0), (1, .long p0), (3, .int p1)]) C [0, 1, 2] rfl ?_
  refine zr_lload_n C 1 rfl rfl dX5_foldPiece_0 ?_
  refine zr_lstore (lv' := [(4, .long p0), (0, .ref h0), (1, .long p0), (3, .int p1)]) C (by decide) rfl dX5_foldPiece_1 ?_
  refine zr_iconst (v := 0) C (by decide) dX5_foldPiece_3 ?_
  refine zr_istore (lv' := [(6, .int 0), (4, .long p0), (0, .ref h0), (1, .long p0), (3, .int p1)]) C (by decide) rfl dX5_foldPiece_4 ?_
  obtain ⟨j1, i2, h16, h⟩ := zb2_e h
  refine zr_lv (lv' := [(0, .ref h0), (3, .int p1), (4, .long p0), (6, .int 0)]) C [2, 4, 1, 0] rfl ?_
  refine w_X5_foldPiece_6 l D cy hZ C (Nat.le_of_ble_eq_true rfl) (Nat.le_of_ble_eq_true rfl) ⟨Nat.le_refl _, Nat.le_refl _⟩ h0 p1 k_h0 I A 2000 (p0, 0) (j1, i2) h16 ?_
  refine zr_lload C 2 rfl dX5_foldPiece_33 ?_
  refine zr_aload_n C 0 rfl rfl dX5_foldPiece_35 ?_
  refine zr_iload_n C 1 rfl rfl dX5_foldPiece_36 ?_
  obtain ⟨r3, h4, h⟩ := zb_e h
  refine zr_callVi (n := 1) (As := [.int p1]) C (c_X5_scan l D cy hZ h0 p1 k_h0 I A h4) wd_608 wd_545 wd_546 wd_1 wd_547 (by decide +kernel) ⟨(Nat.le_of_ble_eq_true rfl), (Nat.le_of_ble_eq_true rfl)⟩ rfl rfl ⟨Nat.le_refl _, Nat.le_refl _⟩ k_h0 (by decide) rfl rfl rfl (Nat.le_of_ble_eq_true rfl) dX5_foldPiece_37 ?_
  obtain ⟨r6, h7, h⟩ := zb_e h
  refine zr_callSl (n := 2) (As := [.long j1, .int r3]) C (c_X5_fold l D cy hZ j1 r3 I A h7) wd_599 wd_600 wd_1 wd_601 (by decide +kernel) ⟨(Nat.le_of_ble_eq_true rfl), (Nat.le_of_ble_eq_true rfl)⟩ rfl rfl ⟨Nat.le_refl _, Nat.le_refl _⟩ rfl rfl (Nat.le_of_ble_eq_true rfl) dX5_foldPiece_40 ?_
  refine zr_lstore (lv' := [(4, .long r6), (0, .ref h0), (3, .int p1), (6, .int i2)]) C (by decide) rfl dX5_foldPiece_43 ?_
  refine zr_iload_n C 2 rfl rfl dX5_foldPiece_45 ?_
  refine zr_iconst (v := 1) C (by decide) dX5_foldPiece_46 ?_
  refine zr_iadd C dX5_foldPiece_47 ?_
  refine zr_aload_n C 1 rfl rfl dX5_foldPiece_48 ?_
  refine zr_get (ci := 5) (k := 8) (v := .int (I h0 8)) C k_h0 (by decide) rfl zinX5 (by decide) wd_166 rfl dX5_foldPiece_49 ?_
  refine zr_icmp_ge (tgt := 70) C (by decide) dX5_foldPiece_52 (fun hc9 => ?_) (fun hc9 => ?_)
  · have h := zif_t hc9 h
    refine zr_lload C 0 rfl dX5_foldPiece_70 ?_
    obtain rfl := zso h
    exact zr_lret C hr dX5_foldPiece_72
  · have h := zif_f hc9 h
    refine zr_lload C 0 rfl dX5_foldPiece_55 ?_
    refine zr_aload_n C 1 rfl rfl dX5_foldPiece_57 ?_
    refine zr_iload_n C 2 rfl rfl dX5_foldPiece_58 ?_
    refine zr_iload_n C 2 rfl rfl dX5_foldPiece_59 ?_
    refine zr_iconst (v := 1) C (by decide) dX5_foldPiece_60 ?_
    refine zr_iadd C dX5_foldPiece_61 ?_
    obtain ⟨r10, h11, h⟩ := zb_e h
    refine zr_callVi (n := 2) (As := [.int p1, .int (p1 + 1)]) C (c_X5_share l D cy hZ h0 p1 (p1 + 1) k_h0 I A h11) wd_609 wd_610 wd_611 wd_1 wd_612 (by decide +kernel) ⟨(Nat.le_of_ble_eq_true rfl), (Nat.le_of_ble_eq_true rfl)⟩ rfl rfl ⟨Nat.le_refl _, Nat.le_refl _⟩ k_h0 (by decide) rfl rfl rfl (Nat.le_of_ble_eq_true rfl) dX5_foldPiece_62 ?_
    obtain ⟨r13, h14, h⟩ := zb_e h
    refine zr_callSl (n := 2) (As := [.long r6, .int r10]) C (c_X5_fold l D cy hZ r6 r10 I A h14) wd_599 wd_600 wd_1 wd_601 (by decide +kernel) ⟨(Nat.le_of_ble_eq_true rfl), (Nat.le_of_ble_eq_true rfl)⟩ rfl rfl ⟨Nat.le_refl _, Nat.le_refl _⟩ rfl rfl (Nat.le_of_ble_eq_true rfl) dX5_foldPiece_65 ?_
    refine zr_lstore (lv' := [(4, .long r13), (0, .ref h0), (3, .int p1), (6, .int i2)]) C (by decide) rfl dX5_foldPiece_68 ?_
    refine zr_lload C 0 rfl dX5_foldPiece_70 ?_
    obtain rfl := zso h
    exact zr_lret C hr dX5_foldPiece_72

def f_X5_needLicence (F G : Nat → Nat → Nat) (h0 : Nat) (p0 : Int32) (I A : zH) : Option (Unit) :=
  if p0 < 0 then (
    none
  ) else (
    if p0 < (I h0 9) then (
      some ()
    ) else (
      none
    )
  )
set_option maxHeartbeats 4000000 in
set_option maxRecDepth 100000 in
theorem c_X5_needLicence (l : Launch) (D : va_G) (cy : Nat → ClassId) {L : List Nat} {K N : Nat → Nat} {F G : Nat → Nat → Nat} (hZ : ZL L K N F G) (h0 : Nat) (p0 : Int32) (k_h0 : K h0 = 5) (I A : zH) (h : f_X5_needLicence F G h0 p0 I A = some ()) : ZMv l yX5_needLicence cX5_needLicence 2 none { frames := 0, cells := 0, slots := 0, locals := 0 } D cy L K N F G [.ref h0, .int p0] I A I A := by
  refine ZMv.of (nL := 2) hZ rfl rfl (by decide) (Nat.le_of_ble_eq_true rfl) (fun p e s m args below meth c C hr => ?_)
  unfold f_X5_needLicence at h
  refine zr_lv (lv' := [(0, .ref h0), (1, .int p0)]) C [0, 1] rfl ?_
  refine zr_iload_n C 1 rfl rfl dX5_needLicence_0 ?_
  refine zr_if_lt (tgt := 12) C (by decide) dX5_needLicence_1 (fun hc1 => ?_) (fun hc1 => ?_)
  · have h := zif_t hc1 h
    exact zno h
  · have h := zif_f hc1 h
    refine zr_iload_n C 1 rfl rfl dX5_needLicence_4 ?_
    refine zr_aload_n C 0 rfl rfl dX5_needLicence_5 ?_
    refine zr_get (ci := 5) (k := 9) (v := .int (I h0 9)) C k_h0 (by decide) rfl zinX5 (by decide) wd_167 rfl dX5_needLicence_6 ?_
    refine zr_icmp_lt (tgt := 23) C (by decide) dX5_needLicence_9 (fun hc2 => ?_) (fun hc2 => ?_)
    · have h := zif_t hc2 h
      exact zr_vret C hr dX5_needLicence_23
    · have h := zif_f hc2 h
      exact zno h

def g_X5_piecesBoundBy_4 (F G : Nat → Nat → Nat) (v0 : Nat) (v1 : Int32) (v2 : Int32) (v3 : Int32) (I : zH) (A : zH) : Option ((Int32 × Int32) ⊕ (Int32 × Int32)) :=
  if (I v0 8) ≤ v3 then (
    some (.inr (v2, v3))
  ) else (
    zb (f_X0_licencesOf F G (F v0 6) v3 I A) fun r2 =>
    zb (f_X5_hasBit F G r2 v1 I A) fun r5 =>
    if r5 = 0 then (
      some (.inl (v2, v3 + 1))
    ) else (
      some (.inl (v2 + 1, v3 + 1))
    )
  )
def f_X5_piecesBoundBy (F G : Nat → Nat → Nat) (h0 : Nat) (p0 : Int32) (I A : zH) : Option (Int32) :=
  zb2 (zIt (fun x => g_X5_piecesBoundBy_4 F G h0 p0 x.1 x.2 I A) 2000 (0, 0)) fun i1 i2 =>
  some i1
set_option maxHeartbeats 4000000 in
set_option maxRecDepth 100000 in
theorem wb_X5_piecesBoundBy_4 (l : Launch) (D : va_G) (cy : Nat → ClassId) {L : List Nat} {K N : Nat → Nat} {F G : Nat → Nat → Nat} (hZ : ZL L K N F G) {p : Program} {e : Env} {R : Room} {s : State} {m : MethodId} {args : Array Value} {below : List Frame} {meth : Method} {c : Code} {cells slots : Nat} {Q : State → Prop} (C : ZC p s m args meth c cX5_piecesBoundBy yX5_piecesBoundBy.cls 4 D cy L K N F G) (hRf : 1 ≤ R.frames) (hRl : 21 ≤ R.locals) (hRc : cells ≤ R.cells ∧ slots ≤ R.slots)  (v0 : Nat) (v1 : Int32) (k0 : K v0 = 5) (I : zH) (A : zH) (v2 : Int32) (v3 : Int32) (o : (Int32 × Int32) ⊕ (Int32 × Int32)) (h : g_X5_piecesBoundBy_4 F G v0 v1 v2 v3 I A = some o)
    (hg : ∀ y : Int32 × Int32, o = .inl y → ZW p l e R s m args below meth c 4 D cy L K N F G cells slots Q I A 4 [(0, .ref v0), (1, .int v1), (2, .int y.1), (3, .int y.2)] [])
    (hx : ∀ y : Int32 × Int32, o = .inr y → ZW p l e R s m args below meth c 4 D cy L K N F G cells slots Q I A 36 [(0, .ref v0), (1, .int v1), (2, .int y.1), (3, .int y.2)] []) : ZW p l e R s m args below meth c 4 D cy L K N F G cells slots Q I A 4 [(0, .ref v0), (1, .int v1), (2, .int v2), (3, .int v3)] [] := by
  unfold g_X5_piecesBoundBy_4 at h
  refine zr_iload_n C 3 rfl rfl dX5_piecesBoundBy_4 ?_
  refine zr_aload_n C 0 rfl rfl dX5_piecesBoundBy_5 ?_
  refine zr_get (ci := 5) (k := 8) (v := .int (I v0 8)) C k0 (by decide) rfl zinX5 (by decide) wd_166 rfl dX5_piecesBoundBy_6 ?_
  refine zr_icmp_ge (tgt := 36) C (by decide) dX5_piecesBoundBy_9 (fun hc1 => ?_) (fun hc1 => ?_)
  · have h := zif_t hc1 h
    obtain rfl := zso h
    refine zr_lv (lv' := [(0, .ref v0), (1, .int v1), (2, .int v2), (3, .int v3)]) C [0, 1, 2, 3] rfl ?_
    exact hx _ rfl
  · have h := zif_f hc1 h
    refine zr_aload_n C 0 rfl rfl dX5_piecesBoundBy_12 ?_
    refine zr_get (ci := 5) (k := 6) (v := .ref (F v0 6)) C k0 (by decide) rfl zinX5 (by decide) wd_164 rfl dX5_piecesBoundBy_13 ?_
    refine zr_iload_n C 3 rfl rfl dX5_piecesBoundBy_16 ?_
    obtain ⟨r2, h3, h⟩ := zb_e h
    refine zr_callVi (n := 1) (As := [.int v3]) C (c_X0_licencesOf l D cy hZ (F v0 6) v3 (zt56 hZ k0) I A h3) wd_314 wd_315 wd_316 wd_3 wd_317 (by decide +kernel) ⟨(Nat.le_trans (Nat.le_of_ble_eq_true rfl) hRf), (Nat.le_trans (Nat.le_of_ble_eq_true rfl) hRl)⟩ rfl rfl hRc (zt56 hZ k0) (by decide) rfl rfl rfl (Nat.le_of_ble_eq_true rfl) dX5_piecesBoundBy_17 ?_
    refine zr_iload_n C 1 rfl rfl dX5_piecesBoundBy_20 ?_
    obtain ⟨r5, h6, h⟩ := zb_e h
    refine zr_callSi (n := 2) (As := [.int r2, .int v1]) C (c_X5_hasBit l D cy hZ r2 v1 I A h6) wd_392 wd_323 wd_1 wd_324 (by decide +kernel) ⟨(Nat.le_trans (Nat.le_of_ble_eq_true rfl) hRf), (Nat.le_trans (Nat.le_of_ble_eq_true rfl) hRl)⟩ rfl rfl hRc rfl rfl (Nat.le_of_ble_eq_true rfl) dX5_piecesBoundBy_21 ?_
    refine zr_if_eq (tgt := 30) C (by decide) dX5_piecesBoundBy_24 (fun hc8 => ?_) (fun hc8 => ?_)
    · have h := zif_t hc8 h
      refine zr_iinc (v := v3 + 1) (lv' := [(3, .int (v3 + 1)), (0, .ref v0), (1, .int v1), (2, .int v2)]) C 3 rfl rfl (by decide) rfl dX5_piecesBoundBy_30 ?_
      refine zr_goto (tgt := 4) C (by decide) dX5_piecesBoundBy_33 ?_
      obtain rfl := zso h
      refine zr_lv (lv' := [(0, .ref v0), (1, .int v1), (2, .int v2), (3, .int (v3 + 1))]) C [1, 2, 3, 0] rfl ?_
      exact hg _ rfl
    · have h := zif_f hc8 h
      refine zr_iinc (v := v2 + 1) (lv' := [(2, .int (v2 + 1)), (0, .ref v0), (1, .int v1), (3, .int v3)]) C 2 rfl rfl (by decide) rfl dX5_piecesBoundBy_27 ?_
      refine zr_iinc (v := v3 + 1) (lv' := [(3, .int (v3 + 1)), (2, .int (v2 + 1)), (0, .ref v0), (1, .int v1)]) C 3 rfl rfl (by decide) rfl dX5_piecesBoundBy_30 ?_
      refine zr_goto (tgt := 4) C (by decide) dX5_piecesBoundBy_33 ?_
      obtain rfl := zso h
      refine zr_lv (lv' := [(0, .ref v0), (1, .int v1), (2, .int (v2 + 1)), (3, .int (v3 + 1))]) C [2, 3, 1, 0] rfl ?_
      exact hg _ rfl
set_option maxHeartbeats 4000000 in
set_option maxRecDepth 100000 in
theorem w_X5_piecesBoundBy_4 (l : Launch) (D : va_G) (cy : Nat → ClassId) {L : List Nat} {K N : Nat → Nat} {F G : Nat → Nat → Nat} (hZ : ZL L K N F G) {p : Program} {e : Env} {R : Room} {s : State} {m : MethodId} {args : Array Value} {below : List Frame} {meth : Method} {c : Code} {cells slots : Nat} {Q : State → Prop} (C : ZC p s m args meth c cX5_piecesBoundBy yX5_piecesBoundBy.cls 4 D cy L K N F G) (hRf : 1 ≤ R.frames) (hRl : 21 ≤ R.locals) (hRc : cells ≤ R.cells ∧ slots ≤ R.slots)  (v0 : Nat) (v1 : Int32) (k0 : K v0 = 5) (I : zH) (A : zH) (n : Nat) (x : Int32 × Int32) (o : Int32 × Int32) (h : zIt (fun x => g_X5_piecesBoundBy_4 F G v0 v1 x.1 x.2 I A) n x = some o)
    (hx : ZW p l e R s m args below meth c 4 D cy L K N F G cells slots Q I A 36 [(0, .ref v0), (1, .int v1), (2, .int o.1), (3, .int o.2)] []) : ZW p l e R s m args below meth c 4 D cy L K N F G cells slots Q I A 4 [(0, .ref v0), (1, .int v1), (2, .int x.1), (3, .int x.2)] [] := by
  induction n generalizing x with
  | zero => cases h
  | succ n ih =>
    unfold zIt at h
    cases hb : g_X5_piecesBoundBy_4 F G v0 v1 x.1 x.2 I A with
    | none => rw [hb] at h; cases h
    | some q =>
      rw [hb] at h
      refine wb_X5_piecesBoundBy_4 l D cy hZ C hRf hRl hRc v0 v1 k0 I A x.1 x.2 q hb (fun y hy => ?_) (fun y hy => ?_)
      · subst hy; exact ih y h
      · subst hy; cases h; exact hx
set_option maxHeartbeats 4000000 in
set_option maxRecDepth 100000 in
theorem c_X5_piecesBoundBy (l : Launch) (D : va_G) (cy : Nat → ClassId) {L : List Nat} {K N : Nat → Nat} {F G : Nat → Nat → Nat} (hZ : ZL L K N F G) (h0 : Nat) (p0 : Int32) (k_h0 : K h0 = 5) (I A : zH) {r : Int32} (h : f_X5_piecesBoundBy F G h0 p0 I A = some r) : ZMi l yX5_piecesBoundBy cX5_piecesBoundBy 4 (some .int) { frames := 1, cells := 0, slots := 0, locals := 21 } D cy L K N F G [.ref h0, .int p0] I A r I A := by
  refine ZMi.of (nL := 4) hZ rfl rfl (by decide) (Nat.le_of_ble_eq_true rfl) (fun p e s m args below meth c C hr => ?_)
  unfold f_X5_piecesBoundBy at h
  refine zr_lv (lv' := [(0, .ref h0), (1, .int p0)]) C [0, 1] rfl ?_
  refine zr_iconst (v := 0) C (by decide) dX5_piecesBoundBy_0 ?_
  refine zr_istore_n (lv' := [(2, .int 0), (0, .ref h0), (1, .int p0)]) C rfl (by decide) rfl dX5_piecesBoundBy_1 ?_
  refine zr_iconst (v := 0) C (by decide) dX5_piecesBoundBy_2 ?_
  refine zr_istore_n (lv' := [(3, .int 0), (2, .int 0), (0, .ref h0), (1, .int p0)]) C rfl (by decide) rfl dX5_piecesBoundBy_3 ?_
  obtain ⟨i1, i2, h3, h⟩ := zb2_e h
  refine zr_lv (lv' := [(0, .ref h0), (1, .int p0), (2, .int 0), (3, .int 0)]) C [2, 3, 1, 0] rfl ?_
  refine w_X5_piecesBoundBy_4 l D cy hZ C (Nat.le_of_ble_eq_true rfl) (Nat.le_of_ble_eq_true rfl) ⟨Nat.le_refl _, Nat.le_refl _⟩ h0 p0 k_h0 I A 2000 (0, 0) (i1, i2) h3 ?_
  refine zr_iload_n C 2 rfl rfl dX5_piecesBoundBy_36 ?_
  obtain rfl := zso h
  exact zr_iret C hr dX5_piecesBoundBy_37

def f_X5_ofLicence (F G : Nat → Nat → Nat) (h0 : Nat) (p0 : Int32) (p1 : Int32) (I A : zH) : Option (Int32) :=
  zb (f_X5_needLicence F G h0 p0 I A) fun _ =>
  zck (¬ (p0 < 0 ∨ 6 ≤ p0.toNatClampNeg)) <|
  if p1 = 0 then (
    some (I (G (F h0 4) p0.toNatClampNeg) 0)
  ) else (
  if p1 = 1 then (
    some (I (G (F h0 4) p0.toNatClampNeg) 1)
  ) else (
  if p1 = 2 then (
    if (I (G (F h0 4) p0.toNatClampNeg) 2) = 0 then (
      some 0
    ) else (
      some 1
    )
  ) else (
  if p1 = 3 then (
    some (I (G (F h0 4) p0.toNatClampNeg) 3)
  ) else (
  if p1 = 4 then (
    some (I (G (F h0 4) p0.toNatClampNeg) 4)
  ) else (
  if p1 = 5 then (
    zb (f_X5_piecesBoundBy F G h0 p0 I A) fun r11 =>
    some r11
  ) else (
    none
  ))))))
set_option maxHeartbeats 4000000 in
set_option maxRecDepth 100000 in
theorem c_X5_ofLicence (l : Launch) (D : va_G) (cy : Nat → ClassId) {L : List Nat} {K N : Nat → Nat} {F G : Nat → Nat → Nat} (hZ : ZL L K N F G) (h0 : Nat) (p0 : Int32) (p1 : Int32) (k_h0 : K h0 = 5) (I A : zH) {r : Int32} (h : f_X5_ofLicence F G h0 p0 p1 I A = some r) : ZMi l yX5_ofLicence cX5_ofLicence 4 (some .int) { frames := 2, cells := 0, slots := 0, locals := 44 } D cy L K N F G [.ref h0, .int p0, .int p1] I A r I A := by
  refine ZMi.of (nL := 4) hZ rfl rfl (by decide) (Nat.le_of_ble_eq_true rfl) (fun p e s m args below meth c C hr => ?_)
  unfold f_X5_ofLicence at h
  refine zr_lv (lv' := [(0, .ref h0), (1, .int p0), (2, .int p1)]) C [0, 1, 2] rfl ?_
  refine zr_aload_n C 0 rfl rfl dX5_ofLicence_0 ?_
  refine zr_iload_n C 1 rfl rfl dX5_ofLicence_1 ?_
  obtain ⟨_, h1, h⟩ := zb_e h
  refine zr_callVv (n := 1) (As := [.int p0]) C (c_X5_needLicence l D cy hZ h0 p0 k_h0 I A h1) wd_436 wd_438 wp_14 wd_1 wd_439 (by decide +kernel) ⟨(Nat.le_of_ble_eq_true rfl), (Nat.le_of_ble_eq_true rfl)⟩ rfl rfl ⟨Nat.le_refl _, Nat.le_refl _⟩ k_h0 (by decide) rfl rfl rfl (Nat.le_of_ble_eq_true rfl) dX5_ofLicence_2 ?_
  refine zr_aload_n C 0 rfl rfl dX5_ofLicence_5 ?_
  refine zr_get (ci := 5) (k := 4) (v := .ref (F h0 4)) C k_h0 (by decide) rfl zinX5 (by decide) wd_162 rfl dX5_ofLicence_6 ?_
  refine zr_iload_n C 1 rfl rfl dX5_ofLicence_9 ?_
  obtain ⟨hc3, h⟩ := zck_e h
  refine zr_ald7 C (zt54 hZ k_h0).1 (zt54 hZ k_h0).2 hc3 dX5_ofLicence_10 ?_
  refine zr_astore_n (lv' := [(3, .ref (G (F h0 4) p0.toNatClampNeg)), (0, .ref h0), (1, .int p0), (2, .int p1)]) C rfl (by decide) rfl dX5_ofLicence_11 ?_
  refine zr_iload_n C 3 rfl rfl dX5_ofLicence_12 ?_
  by_cases hc4 : p1 = 0
  · have h := zif_t hc4 h
    refine zr_tableIn (off := 39) (tgt := 52) C (by rw [hc4]; decide) (by rw [hc4]; decide) (by rw [hc4]; decide) (by decide) dX5_ofLicence_13 ?_
    refine zr_aload_n C 0 rfl rfl dX5_ofLicence_52 ?_
    refine zr_get (ci := 1) (k := 0) (v := .int (I (G (F h0 4) p0.toNatClampNeg) 0)) C (zt7 hZ (zt54 hZ k_h0).1 (z_ix (zt54 hZ k_h0).2 hc3)) (by decide) rfl zinX1 (by decide) wd_99 rfl dX5_ofLicence_53 ?_
    obtain rfl := zso h
    exact zr_iret C hr dX5_ofLicence_56
  have h := zif_f hc4 h
  by_cases hc5 : p1 = 1
  · have h := zif_t hc5 h
    refine zr_tableIn (off := 44) (tgt := 57) C (by rw [hc5]; decide) (by rw [hc5]; decide) (by rw [hc5]; decide) (by decide) dX5_ofLicence_13 ?_
    refine zr_aload_n C 0 rfl rfl dX5_ofLicence_57 ?_
    refine zr_get (ci := 1) (k := 1) (v := .int (I (G (F h0 4) p0.toNatClampNeg) 1)) C (zt7 hZ (zt54 hZ k_h0).1 (z_ix (zt54 hZ k_h0).2 hc3)) (by decide) rfl zinX1 (by decide) wd_101 rfl dX5_ofLicence_58 ?_
    obtain rfl := zso h
    exact zr_iret C hr dX5_ofLicence_61
  have h := zif_f hc5 h
  by_cases hc6 : p1 = 2
  · have h := zif_t hc6 h
    refine zr_tableIn (off := 49) (tgt := 62) C (by rw [hc6]; decide) (by rw [hc6]; decide) (by rw [hc6]; decide) (by decide) dX5_ofLicence_13 ?_
    refine zr_aload_n C 0 rfl rfl dX5_ofLicence_62 ?_
    refine zr_get (ci := 1) (k := 2) (v := .int (I (G (F h0 4) p0.toNatClampNeg) 2)) C (zt7 hZ (zt54 hZ k_h0).1 (z_ix (zt54 hZ k_h0).2 hc3)) (by decide) rfl zinX1 (by decide) wd_104 rfl dX5_ofLicence_63 ?_
    refine zr_if_eq (tgt := 73) C (by decide) dX5_ofLicence_66 (fun hc7 => ?_) (fun hc7 => ?_)
    · have h := zif_t hc7 h
      refine zr_iconst (v := 0) C (by decide) dX5_ofLicence_73 ?_
      obtain rfl := zso h
      exact zr_iret C hr dX5_ofLicence_74
    · have h := zif_f hc7 h
      refine zr_iconst (v := 1) C (by decide) dX5_ofLicence_69 ?_
      refine zr_goto (tgt := 74) C (by decide) dX5_ofLicence_70 ?_
      obtain rfl := zso h
      exact zr_iret C hr dX5_ofLicence_74
  have h := zif_f hc6 h
  by_cases hc8 : p1 = 3
  · have h := zif_t hc8 h
    refine zr_tableIn (off := 62) (tgt := 75) C (by rw [hc8]; decide) (by rw [hc8]; decide) (by rw [hc8]; decide) (by decide) dX5_ofLicence_13 ?_
    refine zr_aload_n C 0 rfl rfl dX5_ofLicence_75 ?_
    refine zr_get (ci := 1) (k := 3) (v := .int (I (G (F h0 4) p0.toNatClampNeg) 3)) C (zt7 hZ (zt54 hZ k_h0).1 (z_ix (zt54 hZ k_h0).2 hc3)) (by decide) rfl zinX1 (by decide) wd_106 rfl dX5_ofLicence_76 ?_
    obtain rfl := zso h
    exact zr_iret C hr dX5_ofLicence_79
  have h := zif_f hc8 h
  by_cases hc9 : p1 = 4
  · have h := zif_t hc9 h
    refine zr_tableIn (off := 67) (tgt := 80) C (by rw [hc9]; decide) (by rw [hc9]; decide) (by rw [hc9]; decide) (by decide) dX5_ofLicence_13 ?_
    refine zr_aload_n C 0 rfl rfl dX5_ofLicence_80 ?_
    refine zr_get (ci := 1) (k := 4) (v := .int (I (G (F h0 4) p0.toNatClampNeg) 4)) C (zt7 hZ (zt54 hZ k_h0).1 (z_ix (zt54 hZ k_h0).2 hc3)) (by decide) rfl zinX1 (by decide) wd_109 rfl dX5_ofLicence_81 ?_
    obtain rfl := zso h
    exact zr_iret C hr dX5_ofLicence_84
  have h := zif_f hc9 h
  by_cases hc10 : p1 = 5
  · have h := zif_t hc10 h
    refine zr_tableIn (off := 72) (tgt := 85) C (by rw [hc10]; decide) (by rw [hc10]; decide) (by rw [hc10]; decide) (by decide) dX5_ofLicence_13 ?_
    refine zr_aload_n C 1 rfl rfl dX5_ofLicence_85 ?_
    refine zr_iload_n C 2 rfl rfl dX5_ofLicence_86 ?_
    obtain ⟨r11, h12, h⟩ := zb_e h
    refine zr_callVi (n := 1) (As := [.int p0]) C (c_X5_piecesBoundBy l D cy hZ h0 p0 k_h0 I A h12) wd_441 wd_443 wp_15 wd_1 wd_444 (by decide +kernel) ⟨(Nat.le_of_ble_eq_true rfl), (Nat.le_of_ble_eq_true rfl)⟩ rfl rfl ⟨Nat.le_refl _, Nat.le_refl _⟩ k_h0 (by decide) rfl rfl rfl (Nat.le_of_ble_eq_true rfl) dX5_ofLicence_87 ?_
    obtain rfl := zso h
    exact zr_iret C hr dX5_ofLicence_90
  have h := zif_f hc10 h
  refine zr_tableOut (tgt := 91) C (zsw_0_5 hc4 hc5 hc6 hc8 hc9 hc10) (by decide) dX5_ofLicence_13 ?_
  exact zno h

def g_X5_foldLicence_6 (F G : Nat → Nat → Nat) (v0 : Nat) (v3 : Int32) (v4 : Int64) (v6 : Int32) (I : zH) (A : zH) : Option ((Int64 × Int32) ⊕ (Int64 × Int32)) :=
  if 6 ≤ v6 then (
    some (.inr (v4, v6))
  ) else (
    zb (f_X5_ofLicence F G v0 v3 v6 I A) fun r2 =>
    zb (f_X5_fold F G v4 r2 I A) fun r5 =>
    some (.inl (r5, v6 + 1))
  )
def f_X5_foldLicence (F G : Nat → Nat → Nat) (h0 : Nat) (p0 : Int64) (p1 : Int32) (I A : zH) : Option (Int64) :=
  zb2 (zIt (fun x => g_X5_foldLicence_6 F G h0 p1 x.1 x.2 I A) 2000 (p0, 0)) fun j1 i2 =>
  some j1
set_option maxHeartbeats 4000000 in
set_option maxRecDepth 100000 in
theorem wb_X5_foldLicence_6 (l : Launch) (D : va_G) (cy : Nat → ClassId) {L : List Nat} {K N : Nat → Nat} {F G : Nat → Nat → Nat} (hZ : ZL L K N F G) {p : Program} {e : Env} {R : Room} {s : State} {m : MethodId} {args : Array Value} {below : List Frame} {meth : Method} {c : Code} {cells slots : Nat} {Q : State → Prop} (C : ZC p s m args meth c cX5_foldLicence yX5_foldLicence.cls 7 D cy L K N F G) (hRf : 3 ≤ R.frames) (hRl : 67 ≤ R.locals) (hRc : cells ≤ R.cells ∧ slots ≤ R.slots)  (v0 : Nat) (v3 : Int32) (k0 : K v0 = 5) (I : zH) (A : zH) (v4 : Int64) (v6 : Int32) (o : (Int64 × Int32) ⊕ (Int64 × Int32)) (h : g_X5_foldLicence_6 F G v0 v3 v4 v6 I A = some o)
    (hg : ∀ y : Int64 × Int32, o = .inl y → ZW p l e R s m args below meth c 7 D cy L K N F G cells slots Q I A 6 [(0, .ref v0), (3, .int v3), (4, .long y.1), (6, .int y.2)] [])
    (hx : ∀ y : Int64 × Int32, o = .inr y → ZW p l e R s m args below meth c 7 D cy L K N F G cells slots Q I A 33 [(0, .ref v0), (3, .int v3), (4, .long y.1), (6, .int y.2)] []) : ZW p l e R s m args below meth c 7 D cy L K N F G cells slots Q I A 6 [(0, .ref v0), (3, .int v3), (4, .long v4), (6, .int v6)] [] := by
  unfold g_X5_foldLicence_6 at h
  refine zr_iload C 3 rfl dX5_foldLicence_6 ?_
  refine zr_bipush (v := 6) C (by decide) dX5_foldLicence_8 ?_
  refine zr_icmp_ge (tgt := 33) C (by decide) dX5_foldLicence_10 (fun hc1 => ?_) (fun hc1 => ?_)
  · have h := zif_t hc1 h
    obtain rfl := zso h
    refine zr_lv (lv' := [(0, .ref v0), (3, .int v3), (4, .long v4), (6, .int v6)]) C [0, 1, 2, 3] rfl ?_
    exact hx _ rfl
  · have h := zif_f hc1 h
    refine zr_lload C 2 rfl dX5_foldLicence_13 ?_
    refine zr_aload_n C 0 rfl rfl dX5_foldLicence_15 ?_
    refine zr_iload_n C 1 rfl rfl dX5_foldLicence_16 ?_
    refine zr_iload C 3 rfl dX5_foldLicence_17 ?_
    obtain ⟨r2, h3, h⟩ := zb_e h
    refine zr_callVi (n := 2) (As := [.int v3, .int v6]) C (c_X5_ofLicence l D cy hZ v0 v3 v6 k0 I A h3) wd_617 wd_433 wd_434 wd_1 wd_435 (by decide +kernel) ⟨(Nat.le_trans (Nat.le_of_ble_eq_true rfl) hRf), (Nat.le_trans (Nat.le_of_ble_eq_true rfl) hRl)⟩ rfl rfl hRc k0 (by decide) rfl rfl rfl (Nat.le_of_ble_eq_true rfl) dX5_foldLicence_19 ?_
    obtain ⟨r5, h6, h⟩ := zb_e h
    refine zr_callSl (n := 2) (As := [.long v4, .int r2]) C (c_X5_fold l D cy hZ v4 r2 I A h6) wd_599 wd_600 wd_1 wd_601 (by decide +kernel) ⟨(Nat.le_trans (Nat.le_of_ble_eq_true rfl) hRf), (Nat.le_trans (Nat.le_of_ble_eq_true rfl) hRl)⟩ rfl rfl hRc rfl rfl (Nat.le_of_ble_eq_true rfl) dX5_foldLicence_22 ?_
    refine zr_lstore (lv' := [(4, .long r5), (0, .ref v0), (3, .int v3), (6, .int v6)]) C (by decide) rfl dX5_foldLicence_25 ?_
    refine zr_iinc (v := v6 + 1) (lv' := [(6, .int (v6 + 1)), (4, .long r5), (0, .ref v0), (3, .int v3)]) C 3 rfl rfl (by decide) rfl dX5_foldLicence_27 ?_
    refine zr_goto (tgt := 6) C (by decide) dX5_foldLicence_30 ?_
    obtain rfl := zso h
    refine zr_lv (lv' := [(0, .ref v0), (3, .int v3), (4, .long r5), (6, .int (v6 + 1))]) C [2, 3, 1, 0] rfl ?_
    exact hg _ rfl
set_option maxHeartbeats 4000000 in
set_option maxRecDepth 100000 in
theorem w_X5_foldLicence_6 (l : Launch) (D : va_G) (cy : Nat → ClassId) {L : List Nat} {K N : Nat → Nat} {F G : Nat → Nat → Nat} (hZ : ZL L K N F G) {p : Program} {e : Env} {R : Room} {s : State} {m : MethodId} {args : Array Value} {below : List Frame} {meth : Method} {c : Code} {cells slots : Nat} {Q : State → Prop} (C : ZC p s m args meth c cX5_foldLicence yX5_foldLicence.cls 7 D cy L K N F G) (hRf : 3 ≤ R.frames) (hRl : 67 ≤ R.locals) (hRc : cells ≤ R.cells ∧ slots ≤ R.slots)  (v0 : Nat) (v3 : Int32) (k0 : K v0 = 5) (I : zH) (A : zH) (n : Nat) (x : Int64 × Int32) (o : Int64 × Int32) (h : zIt (fun x => g_X5_foldLicence_6 F G v0 v3 x.1 x.2 I A) n x = some o)
    (hx : ZW p l e R s m args below meth c 7 D cy L K N F G cells slots Q I A 33 [(0, .ref v0), (3, .int v3), (4, .long o.1), (6, .int o.2)] []) : ZW p l e R s m args below meth c 7 D cy L K N F G cells slots Q I A 6 [(0, .ref v0), (3, .int v3), (4, .long x.1), (6, .int x.2)] [] := by
  induction n generalizing x with
  | zero => cases h
  | succ n ih =>
    unfold zIt at h
    cases hb : g_X5_foldLicence_6 F G v0 v3 x.1 x.2 I A with
    | none => rw [hb] at h; cases h
    | some q =>
      rw [hb] at h
      refine wb_X5_foldLicence_6 l D cy hZ C hRf hRl hRc v0 v3 k0 I A x.1 x.2 q hb (fun y hy => ?_) (fun y hy => ?_)
      · subst hy; exact ih y h
      · subst hy; cases h; exact hx
set_option maxHeartbeats 4000000 in
set_option maxRecDepth 100000 in
theorem c_X5_foldLicence (l : Launch) (D : va_G) (cy : Nat → ClassId) {L : List Nat} {K N : Nat → Nat} {F G : Nat → Nat → Nat} (hZ : ZL L K N F G) (h0 : Nat) (p0 : Int64) (p1 : Int32) (k_h0 : K h0 = 5) (I A : zH) {r : Int64} (h : f_X5_foldLicence F G h0 p0 p1 I A = some r) : ZMl l yX5_foldLicence cX5_foldLicence 7 (some .long) { frames := 3, cells := 0, slots := 0, locals := 67 } D cy L K N F G [.ref h0, .long p0, .int p1] I A r I A := by
  refine ZMl.of (nL := 7) hZ rfl rfl (by decide) (Nat.le_of_ble_eq_true rfl) (fun p e s m args below meth c C hr => ?_)
  unfold f_X5_foldLicence at h
  refine zr_lv (lv' := [(0, .ref h0), (1, .long p0), (3, .int p1)]) C [0, 1, 2] rfl ?_
  refine zr_lload_n C 1 rfl rfl dX5_foldLicence_0 ?_
  refine zr_lstore (lv' := [(4, .long p0), (0, .ref h0), (1, .long p0), (3, .int p1)]) C (by decide) rfl dX5_foldLicence_1 ?_
  refine zr_iconst (v := 0) C (by decide) dX5_foldLicence_3 ?_
  refine zr_istore (lv' := [(6, .int 0), (4, .long p0), (0, .ref h0), (1, .long p0), (3, .int p1)]) C (by decide) rfl dX5_foldLicence_4 ?_
  obtain ⟨j1, i2, h3, h⟩ := zb2_e h
  refine zr_lv (lv' := [(0, .ref h0), (3, .int p1), (4, .long p0), (6, .int 0)]) C [2, 4, 1, 0] rfl ?_
  refine w_X5_foldLicence_6 l D cy hZ C (Nat.le_of_ble_eq_true rfl) (Nat.le_of_ble_eq_true rfl) ⟨Nat.le_refl _, Nat.le_refl _⟩ h0 p1 k_h0 I A 2000 (p0, 0) (j1, i2) h3 ?_
  refine zr_lload C 2 rfl dX5_foldLicence_33 ?_
  obtain rfl := zso h
  exact zr_lret C hr dX5_foldLicence_35

def f_X5_needProject (F G : Nat → Nat → Nat) (h0 : Nat) (p0 : Int32) (I A : zH) : Option (Unit) :=
  if p0 < 0 then (
    none
  ) else (
    if p0 < (I h0 10) then (
      some ()
    ) else (
      none
    )
  )
set_option maxHeartbeats 4000000 in
set_option maxRecDepth 100000 in
theorem c_X5_needProject (l : Launch) (D : va_G) (cy : Nat → ClassId) {L : List Nat} {K N : Nat → Nat} {F G : Nat → Nat → Nat} (hZ : ZL L K N F G) (h0 : Nat) (p0 : Int32) (k_h0 : K h0 = 5) (I A : zH) (h : f_X5_needProject F G h0 p0 I A = some ()) : ZMv l yX5_needProject cX5_needProject 2 none { frames := 0, cells := 0, slots := 0, locals := 0 } D cy L K N F G [.ref h0, .int p0] I A I A := by
  refine ZMv.of (nL := 2) hZ rfl rfl (by decide) (Nat.le_of_ble_eq_true rfl) (fun p e s m args below meth c C hr => ?_)
  unfold f_X5_needProject at h
  refine zr_lv (lv' := [(0, .ref h0), (1, .int p0)]) C [0, 1] rfl ?_
  refine zr_iload_n C 1 rfl rfl dX5_needProject_0 ?_
  refine zr_if_lt (tgt := 12) C (by decide) dX5_needProject_1 (fun hc1 => ?_) (fun hc1 => ?_)
  · have h := zif_t hc1 h
    exact zno h
  · have h := zif_f hc1 h
    refine zr_iload_n C 1 rfl rfl dX5_needProject_4 ?_
    refine zr_aload_n C 0 rfl rfl dX5_needProject_5 ?_
    refine zr_get (ci := 5) (k := 10) (v := .int (I h0 10)) C k_h0 (by decide) rfl zinX5 (by decide) wd_168 rfl dX5_needProject_6 ?_
    refine zr_icmp_lt (tgt := 23) C (by decide) dX5_needProject_9 (fun hc2 => ?_) (fun hc2 => ?_)
    · have h := zif_t hc2 h
      exact zr_vret C hr dX5_needProject_23
    · have h := zif_f hc2 h
      exact zno h

def f_X5_ofProject (F G : Nat → Nat → Nat) (h0 : Nat) (p0 : Int32) (p1 : Int32) (I A : zH) : Option (Int32) :=
  zb (f_X5_needProject F G h0 p0 I A) fun _ =>
  zck (¬ (p0 < 0 ∨ 5 ≤ p0.toNatClampNeg)) <|
  if p1 = 0 then (
    some (I (G (F h0 5) p0.toNatClampNeg) 6)
  ) else (
  if p1 = 1 then (
    zb (f_J6_bitCount_0f7a4 F G (I (G (F h0 5) p0.toNatClampNeg) 4) I A) fun r6 =>
    some r6
  ) else (
  if p1 = 2 then (
    zb (f_X3_countClashes F G (G (F h0 5) p0.toNatClampNeg) (F h0 6) I A) fun r10 =>
    some r10
  ) else (
  if p1 = 3 then (
    zb (f_X3_duties F G (G (F h0 5) p0.toNatClampNeg) (F h0 6) I A) fun r14 =>
    some r14
  ) else (
  if p1 = 4 then (
    some (I (G (F h0 5) p0.toNatClampNeg) 5)
  ) else (
  if p1 = 5 then (
    some (I (G (F h0 5) p0.toNatClampNeg) 7)
  ) else (
  if p1 = 6 then (
    some (I (G (F h0 5) p0.toNatClampNeg) 4)
  ) else (
    none
  )))))))
set_option maxHeartbeats 4000000 in
set_option maxRecDepth 100000 in
theorem c_X5_ofProject (l : Launch) (D : va_G) (cy : Nat → ClassId) {L : List Nat} {K N : Nat → Nat} {F G : Nat → Nat → Nat} (hZ : ZL L K N F G) (h0 : Nat) (p0 : Int32) (p1 : Int32) (k_h0 : K h0 = 5) (I A : zH) {r : Int32} (h : f_X5_ofProject F G h0 p0 p1 I A = some r) : ZMi l yX5_ofProject cX5_ofProject 4 (some .int) { frames := 3, cells := 0, slots := 0, locals := 74 } D cy L K N F G [.ref h0, .int p0, .int p1] I A r I A := by
  refine ZMi.of (nL := 4) hZ rfl rfl (by decide) (Nat.le_of_ble_eq_true rfl) (fun p e s m args below meth c C hr => ?_)
  unfold f_X5_ofProject at h
  refine zr_lv (lv' := [(0, .ref h0), (1, .int p0), (2, .int p1)]) C [0, 1, 2] rfl ?_
  refine zr_aload_n C 0 rfl rfl dX5_ofProject_0 ?_
  refine zr_iload_n C 1 rfl rfl dX5_ofProject_1 ?_
  obtain ⟨_, h1, h⟩ := zb_e h
  refine zr_callVv (n := 1) (As := [.int p0]) C (c_X5_needProject l D cy hZ h0 p0 k_h0 I A h1) wd_468 wd_470 wp_17 wd_1 wd_471 (by decide +kernel) ⟨(Nat.le_of_ble_eq_true rfl), (Nat.le_of_ble_eq_true rfl)⟩ rfl rfl ⟨Nat.le_refl _, Nat.le_refl _⟩ k_h0 (by decide) rfl rfl rfl (Nat.le_of_ble_eq_true rfl) dX5_ofProject_2 ?_
  refine zr_aload_n C 0 rfl rfl dX5_ofProject_5 ?_
  refine zr_get (ci := 5) (k := 5) (v := .ref (F h0 5)) C k_h0 (by decide) rfl zinX5 (by decide) wd_163 rfl dX5_ofProject_6 ?_
  refine zr_iload_n C 1 rfl rfl dX5_ofProject_9 ?_
  obtain ⟨hc3, h⟩ := zck_e h
  refine zr_ald9 C (zt55 hZ k_h0).1 (zt55 hZ k_h0).2 hc3 dX5_ofProject_10 ?_
  refine zr_astore_n (lv' := [(3, .ref (G (F h0 5) p0.toNatClampNeg)), (0, .ref h0), (1, .int p0), (2, .int p1)]) C rfl (by decide) rfl dX5_ofProject_11 ?_
  refine zr_iload_n C 3 rfl rfl dX5_ofProject_12 ?_
  by_cases hc4 : p1 = 0
  · have h := zif_t hc4 h
    refine zr_tableIn (off := 43) (tgt := 56) C (by rw [hc4]; decide) (by rw [hc4]; decide) (by rw [hc4]; decide) (by decide) dX5_ofProject_13 ?_
    refine zr_aload_n C 0 rfl rfl dX5_ofProject_56 ?_
    refine zr_get (ci := 3) (k := 6) (v := .int (I (G (F h0 5) p0.toNatClampNeg) 6)) C (zt9 hZ (zt55 hZ k_h0).1 (z_ix (zt55 hZ k_h0).2 hc3)) (by decide) rfl zinX3 (by decide) wd_138 rfl dX5_ofProject_57 ?_
    obtain rfl := zso h
    exact zr_iret C hr dX5_ofProject_60
  have h := zif_f hc4 h
  by_cases hc5 : p1 = 1
  · have h := zif_t hc5 h
    refine zr_tableIn (off := 48) (tgt := 61) C (by rw [hc5]; decide) (by rw [hc5]; decide) (by rw [hc5]; decide) (by decide) dX5_ofProject_13 ?_
    refine zr_aload_n C 0 rfl rfl dX5_ofProject_61 ?_
    refine zr_get (ci := 3) (k := 4) (v := .int (I (G (F h0 5) p0.toNatClampNeg) 4)) C (zt9 hZ (zt55 hZ k_h0).1 (z_ix (zt55 hZ k_h0).2 hc3)) (by decide) rfl zinX3 (by decide) wd_134 rfl dX5_ofProject_62 ?_
    obtain ⟨r6, h7, h⟩ := zb_e h
    refine zr_callSi (n := 1) (As := [.int (I (G (F h0 5) p0.toNatClampNeg) 4)]) C (c_J6_bitCount_0f7a4 l D cy hZ (I (G (F h0 5) p0.toNatClampNeg) 4) I A h7) wd_503 wd_359 wd_12 wd_360 (by decide +kernel) ⟨(Nat.le_of_ble_eq_true rfl), (Nat.le_of_ble_eq_true rfl)⟩ rfl rfl ⟨Nat.le_refl _, Nat.le_refl _⟩ rfl rfl (Nat.le_of_ble_eq_true rfl) dX5_ofProject_65 ?_
    obtain rfl := zso h
    exact zr_iret C hr dX5_ofProject_68
  have h := zif_f hc5 h
  by_cases hc9 : p1 = 2
  · have h := zif_t hc9 h
    refine zr_tableIn (off := 56) (tgt := 69) C (by rw [hc9]; decide) (by rw [hc9]; decide) (by rw [hc9]; decide) (by decide) dX5_ofProject_13 ?_
    refine zr_aload_n C 0 rfl rfl dX5_ofProject_69 ?_
    refine zr_aload_n C 1 rfl rfl dX5_ofProject_70 ?_
    refine zr_get (ci := 5) (k := 6) (v := .ref (F h0 6)) C k_h0 (by decide) rfl zinX5 (by decide) wd_164 rfl dX5_ofProject_71 ?_
    obtain ⟨r10, h11, h⟩ := zb_e h
    refine zr_callVi (n := 1) (As := [.ref (F h0 6)]) C (c_X3_countClashes l D cy hZ (G (F h0 5) p0.toNatClampNeg) (F h0 6) (zt9 hZ (zt55 hZ k_h0).1 (z_ix (zt55 hZ k_h0).2 hc3)) (zt56 hZ k_h0) I A h11) wd_504 wd_343 wd_344 wd_6 wd_345 (by decide +kernel) ⟨(Nat.le_of_ble_eq_true rfl), (Nat.le_of_ble_eq_true rfl)⟩ rfl rfl ⟨Nat.le_refl _, Nat.le_refl _⟩ (zt9 hZ (zt55 hZ k_h0).1 (z_ix (zt55 hZ k_h0).2 hc3)) (by decide) rfl rfl rfl (Nat.le_of_ble_eq_true rfl) dX5_ofProject_74 ?_
    obtain rfl := zso h
    exact zr_iret C hr dX5_ofProject_77
  have h := zif_f hc9 h
  by_cases hc13 : p1 = 3
  · have h := zif_t hc13 h
    refine zr_tableIn (off := 65) (tgt := 78) C (by rw [hc13]; decide) (by rw [hc13]; decide) (by rw [hc13]; decide) (by decide) dX5_ofProject_13 ?_
    refine zr_aload_n C 0 rfl rfl dX5_ofProject_78 ?_
    refine zr_aload_n C 1 rfl rfl dX5_ofProject_79 ?_
    refine zr_get (ci := 5) (k := 6) (v := .ref (F h0 6)) C k_h0 (by decide) rfl zinX5 (by decide) wd_164 rfl dX5_ofProject_80 ?_
    obtain ⟨r14, h15, h⟩ := zb_e h
    refine zr_callVi (n := 1) (As := [.ref (F h0 6)]) C (c_X3_duties l D cy hZ (G (F h0 5) p0.toNatClampNeg) (F h0 6) (zt9 hZ (zt55 hZ k_h0).1 (z_ix (zt55 hZ k_h0).2 hc3)) (zt56 hZ k_h0) I A h15) wd_505 wd_334 wd_335 wd_6 wd_336 (by decide +kernel) ⟨(Nat.le_of_ble_eq_true rfl), (Nat.le_of_ble_eq_true rfl)⟩ rfl rfl ⟨Nat.le_refl _, Nat.le_refl _⟩ (zt9 hZ (zt55 hZ k_h0).1 (z_ix (zt55 hZ k_h0).2 hc3)) (by decide) rfl rfl rfl (Nat.le_of_ble_eq_true rfl) dX5_ofProject_83 ?_
    obtain rfl := zso h
    exact zr_iret C hr dX5_ofProject_86
  have h := zif_f hc13 h
  by_cases hc17 : p1 = 4
  · have h := zif_t hc17 h
    refine zr_tableIn (off := 74) (tgt := 87) C (by rw [hc17]; decide) (by rw [hc17]; decide) (by rw [hc17]; decide) (by decide) dX5_ofProject_13 ?_
    refine zr_aload_n C 0 rfl rfl dX5_ofProject_87 ?_
    refine zr_get (ci := 3) (k := 5) (v := .int (I (G (F h0 5) p0.toNatClampNeg) 5)) C (zt9 hZ (zt55 hZ k_h0).1 (z_ix (zt55 hZ k_h0).2 hc3)) (by decide) rfl zinX3 (by decide) wd_136 rfl dX5_ofProject_88 ?_
    obtain rfl := zso h
    exact zr_iret C hr dX5_ofProject_91
  have h := zif_f hc17 h
  by_cases hc18 : p1 = 5
  · have h := zif_t hc18 h
    refine zr_tableIn (off := 79) (tgt := 92) C (by rw [hc18]; decide) (by rw [hc18]; decide) (by rw [hc18]; decide) (by decide) dX5_ofProject_13 ?_
    refine zr_aload_n C 0 rfl rfl dX5_ofProject_92 ?_
    refine zr_get (ci := 3) (k := 7) (v := .int (I (G (F h0 5) p0.toNatClampNeg) 7)) C (zt9 hZ (zt55 hZ k_h0).1 (z_ix (zt55 hZ k_h0).2 hc3)) (by decide) rfl zinX3 (by decide) wd_140 rfl dX5_ofProject_93 ?_
    obtain rfl := zso h
    exact zr_iret C hr dX5_ofProject_96
  have h := zif_f hc18 h
  by_cases hc19 : p1 = 6
  · have h := zif_t hc19 h
    refine zr_tableIn (off := 84) (tgt := 97) C (by rw [hc19]; decide) (by rw [hc19]; decide) (by rw [hc19]; decide) (by decide) dX5_ofProject_13 ?_
    refine zr_aload_n C 0 rfl rfl dX5_ofProject_97 ?_
    refine zr_get (ci := 3) (k := 4) (v := .int (I (G (F h0 5) p0.toNatClampNeg) 4)) C (zt9 hZ (zt55 hZ k_h0).1 (z_ix (zt55 hZ k_h0).2 hc3)) (by decide) rfl zinX3 (by decide) wd_134 rfl dX5_ofProject_98 ?_
    obtain rfl := zso h
    exact zr_iret C hr dX5_ofProject_101
  have h := zif_f hc19 h
  refine zr_tableOut (tgt := 102) C (zsw_0_6 hc4 hc5 hc9 hc13 hc17 hc18 hc19) (by decide) dX5_ofProject_13 ?_
  exact zno h

def f_X5_remedy (F G : Nat → Nat → Nat) (h0 : Nat) (p0 : Int32) (I A : zH) : Option (Int32 × zH) :=
  zb (f_X5_needProject F G h0 p0 I A) fun _ =>
  zck (¬ (p0 < 0 ∨ 5 ≤ p0.toNatClampNeg)) <|
  zb2 (f_X3_fewestToEmpty F G (G (F h0 5) p0.toNatClampNeg) (F h0 6) I A) fun r4 A5 =>
  some (r4, A5)
set_option maxHeartbeats 4000000 in
set_option maxRecDepth 100000 in
theorem c_X5_remedy (l : Launch) (D : va_G) (cy : Nat → ClassId) {L : List Nat} {K N : Nat → Nat} {F G : Nat → Nat → Nat} (hZ : ZL L K N F G) (h0 : Nat) (p0 : Int32) (k_h0 : K h0 = 5) (I A : zH) {r : Int32} {B' : zH} (h : f_X5_remedy F G h0 p0 I A = some (r, B')) : ZMi l yX5_remedy cX5_remedy 2 (some .int) { frames := 4, cells := 0, slots := 0, locals := 98 } D cy L K N F G [.ref h0, .int p0] I A r I B' := by
  refine ZMi.of (nL := 2) hZ rfl rfl (by decide) (Nat.le_of_ble_eq_true rfl) (fun p e s m args below meth c C hr => ?_)
  unfold f_X5_remedy at h
  refine zr_lv (lv' := [(0, .ref h0), (1, .int p0)]) C [0, 1] rfl ?_
  refine zr_aload_n C 0 rfl rfl dX5_remedy_0 ?_
  refine zr_iload_n C 1 rfl rfl dX5_remedy_1 ?_
  obtain ⟨_, h1, h⟩ := zb_e h
  refine zr_callVv (n := 1) (As := [.int p0]) C (c_X5_needProject l D cy hZ h0 p0 k_h0 I A h1) wd_468 wd_470 wp_17 wd_1 wd_471 (by decide +kernel) ⟨(Nat.le_of_ble_eq_true rfl), (Nat.le_of_ble_eq_true rfl)⟩ rfl rfl ⟨Nat.le_refl _, Nat.le_refl _⟩ k_h0 (by decide) rfl rfl rfl (Nat.le_of_ble_eq_true rfl) dX5_remedy_2 ?_
  refine zr_aload_n C 0 rfl rfl dX5_remedy_5 ?_
  refine zr_get (ci := 5) (k := 5) (v := .ref (F h0 5)) C k_h0 (by decide) rfl zinX5 (by decide) wd_163 rfl dX5_remedy_6 ?_
  refine zr_iload_n C 1 rfl rfl dX5_remedy_9 ?_
  obtain ⟨hc3, h⟩ := zck_e h
  refine zr_ald9 C (zt55 hZ k_h0).1 (zt55 hZ k_h0).2 hc3 dX5_remedy_10 ?_
  refine zr_aload_n C 0 rfl rfl dX5_remedy_11 ?_
  refine zr_get (ci := 5) (k := 6) (v := .ref (F h0 6)) C k_h0 (by decide) rfl zinX5 (by decide) wd_164 rfl dX5_remedy_12 ?_
  obtain ⟨r4, A5, h6, h⟩ := zb2_e h
  refine zr_callVi (n := 1) (As := [.ref (F h0 6)]) C (c_X3_fewestToEmpty l D cy hZ (G (F h0 5) p0.toNatClampNeg) (F h0 6) (zt9 hZ (zt55 hZ k_h0).1 (z_ix (zt55 hZ k_h0).2 hc3)) (zt56 hZ k_h0) I A h6) wd_574 wd_575 wd_576 wd_6 wd_577 (by decide +kernel) ⟨(Nat.le_of_ble_eq_true rfl), (Nat.le_of_ble_eq_true rfl)⟩ rfl rfl ⟨Nat.le_refl _, Nat.le_refl _⟩ (zt9 hZ (zt55 hZ k_h0).1 (z_ix (zt55 hZ k_h0).2 hc3)) (by decide) rfl rfl rfl (Nat.le_of_ble_eq_true rfl) dX5_remedy_15 ?_
  cases zso h
  exact zr_iret C hr dX5_remedy_18

def f_X5_needNode (F G : Nat → Nat → Nat) (h0 : Nat) (p0 : Int32) (p1 : Int32) (I A : zH) : Option (Unit) :=
  zb (f_X5_needProject F G h0 p0 I A) fun _ =>
  zck (¬ (p0 < 0 ∨ 5 ≤ p0.toNatClampNeg)) <|
  zb (f_X3_hasNode F G (G (F h0 5) p0.toNatClampNeg) p1 I A) fun r4 =>
  if r4 = 0 then (
    none
  ) else (
    some ()
  )
set_option maxHeartbeats 4000000 in
set_option maxRecDepth 100000 in
theorem c_X5_needNode (l : Launch) (D : va_G) (cy : Nat → ClassId) {L : List Nat} {K N : Nat → Nat} {F G : Nat → Nat → Nat} (hZ : ZL L K N F G) (h0 : Nat) (p0 : Int32) (p1 : Int32) (k_h0 : K h0 = 5) (I A : zH) (h : f_X5_needNode F G h0 p0 p1 I A = some ()) : ZMv l yX5_needNode cX5_needNode 3 none { frames := 2, cells := 0, slots := 0, locals := 42 } D cy L K N F G [.ref h0, .int p0, .int p1] I A I A := by
  refine ZMv.of (nL := 3) hZ rfl rfl (by decide) (Nat.le_of_ble_eq_true rfl) (fun p e s m args below meth c C hr => ?_)
  unfold f_X5_needNode at h
  refine zr_lv (lv' := [(0, .ref h0), (1, .int p0), (2, .int p1)]) C [0, 1, 2] rfl ?_
  refine zr_aload_n C 0 rfl rfl dX5_needNode_0 ?_
  refine zr_iload_n C 1 rfl rfl dX5_needNode_1 ?_
  obtain ⟨_, h1, h⟩ := zb_e h
  refine zr_callVv (n := 1) (As := [.int p0]) C (c_X5_needProject l D cy hZ h0 p0 k_h0 I A h1) wd_468 wd_470 wp_17 wd_1 wd_471 (by decide +kernel) ⟨(Nat.le_of_ble_eq_true rfl), (Nat.le_of_ble_eq_true rfl)⟩ rfl rfl ⟨Nat.le_refl _, Nat.le_refl _⟩ k_h0 (by decide) rfl rfl rfl (Nat.le_of_ble_eq_true rfl) dX5_needNode_2 ?_
  refine zr_aload_n C 0 rfl rfl dX5_needNode_5 ?_
  refine zr_get (ci := 5) (k := 5) (v := .ref (F h0 5)) C k_h0 (by decide) rfl zinX5 (by decide) wd_163 rfl dX5_needNode_6 ?_
  refine zr_iload_n C 1 rfl rfl dX5_needNode_9 ?_
  obtain ⟨hc3, h⟩ := zck_e h
  refine zr_ald9 C (zt55 hZ k_h0).1 (zt55 hZ k_h0).2 hc3 dX5_needNode_10 ?_
  refine zr_iload_n C 2 rfl rfl dX5_needNode_11 ?_
  obtain ⟨r4, h5, h⟩ := zb_e h
  refine zr_callVi (n := 1) (As := [.int p1]) C (c_X3_hasNode l D cy hZ (G (F h0 5) p0.toNatClampNeg) p1 (zt9 hZ (zt55 hZ k_h0).1 (z_ix (zt55 hZ k_h0).2 hc3)) I A h5) wd_473 wd_474 wd_475 wd_6 wd_476 (by decide +kernel) ⟨(Nat.le_of_ble_eq_true rfl), (Nat.le_of_ble_eq_true rfl)⟩ rfl rfl ⟨Nat.le_refl _, Nat.le_refl _⟩ (zt9 hZ (zt55 hZ k_h0).1 (z_ix (zt55 hZ k_h0).2 hc3)) (by decide) rfl rfl rfl (Nat.le_of_ble_eq_true rfl) dX5_needNode_12 ?_
  refine zr_if_ne (tgt := 29) C (by decide) dX5_needNode_15 (fun hc7 => ?_) (fun hc7 => ?_)
  · have h := zif_f hc7 h
    exact zr_vret C hr dX5_needNode_29
  · have h := zif_t hc7 h
    exact zno h

def f_X5_ofNode (F G : Nat → Nat → Nat) (h0 : Nat) (p0 : Int32) (p1 : Int32) (p2 : Int32) (I A : zH) : Option (Int32) :=
  zb (f_X5_needNode F G h0 p0 p1 I A) fun _ =>
  zck (¬ (p0 < 0 ∨ 5 ≤ p0.toNatClampNeg)) <|
  if p2 = 0 then (
    zck (¬ (p1 < 0 ∨ 10 ≤ p1.toNatClampNeg)) <|
    some (A (F (G (F h0 5) p0.toNatClampNeg) 0) p1.toNatClampNeg)
  ) else (
  if p2 = 1 then (
    zck (¬ (p1 < 0 ∨ 10 ≤ p1.toNatClampNeg)) <|
    some (A (F (G (F h0 5) p0.toNatClampNeg) 2) p1.toNatClampNeg)
  ) else (
  if p2 = 2 then (
    zck (¬ (p1 < 0 ∨ 10 ≤ p1.toNatClampNeg)) <|
    zb (f_X0_licencesOf F G (F h0 6) (A (F (G (F h0 5) p0.toNatClampNeg) 2) p1.toNatClampNeg) I A) fun r10 =>
    some r10
  ) else (
  if p2 = 3 then (
    zck (¬ (p1 < 0 ∨ 10 ≤ p1.toNatClampNeg)) <|
    zb (f_X3_clashesOf F G (G (F h0 5) p0.toNatClampNeg) p1 (A (F (G (F h0 5) p0.toNatClampNeg) 2) p1.toNatClampNeg) (F h0 6) I A) fun r15 =>
    some r15
  ) else (
  if p2 = 4 then (
    zck (¬ (p1 < 0 ∨ 10 ≤ p1.toNatClampNeg)) <|
    zb (f_J6_bitCount_0f7a4 F G (A (F (G (F h0 5) p0.toNatClampNeg) 1) p1.toNatClampNeg) I A) fun r20 =>
    some r20
  ) else (
    none
  )))))
set_option maxHeartbeats 4000000 in
set_option maxRecDepth 100000 in
theorem c_X5_ofNode (l : Launch) (D : va_G) (cy : Nat → ClassId) {L : List Nat} {K N : Nat → Nat} {F G : Nat → Nat → Nat} (hZ : ZL L K N F G) (h0 : Nat) (p0 : Int32) (p1 : Int32) (p2 : Int32) (k_h0 : K h0 = 5) (I A : zH) {r : Int32} (h : f_X5_ofNode F G h0 p0 p1 p2 I A = some r) : ZMi l yX5_ofNode cX5_ofNode 5 (some .int) { frames := 3, cells := 0, slots := 0, locals := 64 } D cy L K N F G [.ref h0, .int p0, .int p1, .int p2] I A r I A := by
  refine ZMi.of (nL := 5) hZ rfl rfl (by decide) (Nat.le_of_ble_eq_true rfl) (fun p e s m args below meth c C hr => ?_)
  unfold f_X5_ofNode at h
  refine zr_lv (lv' := [(0, .ref h0), (1, .int p0), (2, .int p1), (3, .int p2)]) C [0, 1, 2, 3] rfl ?_
  refine zr_aload_n C 0 rfl rfl dX5_ofNode_0 ?_
  refine zr_iload_n C 1 rfl rfl dX5_ofNode_1 ?_
  refine zr_iload_n C 2 rfl rfl dX5_ofNode_2 ?_
  obtain ⟨_, h1, h⟩ := zb_e h
  refine zr_callVv (n := 2) (As := [.int p0, .int p1]) C (c_X5_needNode l D cy hZ h0 p0 p1 k_h0 I A h1) wd_464 wd_466 wp_16 wd_1 wd_467 (by decide +kernel) ⟨(Nat.le_of_ble_eq_true rfl), (Nat.le_of_ble_eq_true rfl)⟩ rfl rfl ⟨Nat.le_refl _, Nat.le_refl _⟩ k_h0 (by decide) rfl rfl rfl (Nat.le_of_ble_eq_true rfl) dX5_ofNode_3 ?_
  refine zr_aload_n C 0 rfl rfl dX5_ofNode_6 ?_
  refine zr_get (ci := 5) (k := 5) (v := .ref (F h0 5)) C k_h0 (by decide) rfl zinX5 (by decide) wd_163 rfl dX5_ofNode_7 ?_
  refine zr_iload_n C 1 rfl rfl dX5_ofNode_10 ?_
  obtain ⟨hc3, h⟩ := zck_e h
  refine zr_ald9 C (zt55 hZ k_h0).1 (zt55 hZ k_h0).2 hc3 dX5_ofNode_11 ?_
  refine zr_astore (lv' := [(4, .ref (G (F h0 5) p0.toNatClampNeg)), (0, .ref h0), (1, .int p0), (2, .int p1), (3, .int p2)]) C (by decide) rfl dX5_ofNode_12 ?_
  refine zr_iload_n C 4 rfl rfl dX5_ofNode_14 ?_
  by_cases hc4 : p2 = 0
  · have h := zif_t hc4 h
    refine zr_tableIn (off := 33) (tgt := 48) C (by rw [hc4]; decide) (by rw [hc4]; decide) (by rw [hc4]; decide) (by decide) dX5_ofNode_15 ?_
    refine zr_aload C 0 rfl dX5_ofNode_48 ?_
    refine zr_get (ci := 3) (k := 0) (v := .ref (F (G (F h0 5) p0.toNatClampNeg) 0)) C (zt9 hZ (zt55 hZ k_h0).1 (z_ix (zt55 hZ k_h0).2 hc3)) (by decide) rfl zinX3 (by decide) wd_127 rfl dX5_ofNode_50 ?_
    refine zr_iload_n C 3 rfl rfl dX5_ofNode_53 ?_
    obtain ⟨hc5, h⟩ := zck_e h
    refine zr_iald C (zt3 hZ (zt9 hZ (zt55 hZ k_h0).1 (z_ix (zt55 hZ k_h0).2 hc3)) 0 (by decide)).1 (zt3 hZ (zt9 hZ (zt55 hZ k_h0).1 (z_ix (zt55 hZ k_h0).2 hc3)) 0 (by decide)).2 hc5 dX5_ofNode_54 ?_
    obtain rfl := zso h
    exact zr_iret C hr dX5_ofNode_55
  have h := zif_f hc4 h
  by_cases hc6 : p2 = 1
  · have h := zif_t hc6 h
    refine zr_tableIn (off := 41) (tgt := 56) C (by rw [hc6]; decide) (by rw [hc6]; decide) (by rw [hc6]; decide) (by decide) dX5_ofNode_15 ?_
    refine zr_aload C 0 rfl dX5_ofNode_56 ?_
    refine zr_get (ci := 3) (k := 2) (v := .ref (F (G (F h0 5) p0.toNatClampNeg) 2)) C (zt9 hZ (zt55 hZ k_h0).1 (z_ix (zt55 hZ k_h0).2 hc3)) (by decide) rfl zinX3 (by decide) wd_131 rfl dX5_ofNode_58 ?_
    refine zr_iload_n C 3 rfl rfl dX5_ofNode_61 ?_
    obtain ⟨hc7, h⟩ := zck_e h
    refine zr_iald C (zt3 hZ (zt9 hZ (zt55 hZ k_h0).1 (z_ix (zt55 hZ k_h0).2 hc3)) 2 (by decide)).1 (zt3 hZ (zt9 hZ (zt55 hZ k_h0).1 (z_ix (zt55 hZ k_h0).2 hc3)) 2 (by decide)).2 hc7 dX5_ofNode_62 ?_
    obtain rfl := zso h
    exact zr_iret C hr dX5_ofNode_63
  have h := zif_f hc6 h
  by_cases hc8 : p2 = 2
  · have h := zif_t hc8 h
    refine zr_tableIn (off := 49) (tgt := 64) C (by rw [hc8]; decide) (by rw [hc8]; decide) (by rw [hc8]; decide) (by decide) dX5_ofNode_15 ?_
    refine zr_aload_n C 1 rfl rfl dX5_ofNode_64 ?_
    refine zr_get (ci := 5) (k := 6) (v := .ref (F h0 6)) C k_h0 (by decide) rfl zinX5 (by decide) wd_164 rfl dX5_ofNode_65 ?_
    refine zr_aload C 0 rfl dX5_ofNode_68 ?_
    refine zr_get (ci := 3) (k := 2) (v := .ref (F (G (F h0 5) p0.toNatClampNeg) 2)) C (zt9 hZ (zt55 hZ k_h0).1 (z_ix (zt55 hZ k_h0).2 hc3)) (by decide) rfl zinX3 (by decide) wd_131 rfl dX5_ofNode_70 ?_
    refine zr_iload_n C 3 rfl rfl dX5_ofNode_73 ?_
    obtain ⟨hc9, h⟩ := zck_e h
    refine zr_iald C (zt3 hZ (zt9 hZ (zt55 hZ k_h0).1 (z_ix (zt55 hZ k_h0).2 hc3)) 2 (by decide)).1 (zt3 hZ (zt9 hZ (zt55 hZ k_h0).1 (z_ix (zt55 hZ k_h0).2 hc3)) 2 (by decide)).2 hc9 dX5_ofNode_74 ?_
    obtain ⟨r10, h11, h⟩ := zb_e h
    refine zr_callVi (n := 1) (As := [.int (A (F (G (F h0 5) p0.toNatClampNeg) 2) p1.toNatClampNeg)]) C (c_X0_licencesOf l D cy hZ (F h0 6) (A (F (G (F h0 5) p0.toNatClampNeg) 2) p1.toNatClampNeg) (zt56 hZ k_h0) I A h11) wd_314 wd_315 wd_316 wd_3 wd_317 (by decide +kernel) ⟨(Nat.le_of_ble_eq_true rfl), (Nat.le_of_ble_eq_true rfl)⟩ rfl rfl ⟨Nat.le_refl _, Nat.le_refl _⟩ (zt56 hZ k_h0) (by decide) rfl rfl rfl (Nat.le_of_ble_eq_true rfl) dX5_ofNode_75 ?_
    obtain rfl := zso h
    exact zr_iret C hr dX5_ofNode_78
  have h := zif_f hc8 h
  by_cases hc13 : p2 = 3
  · have h := zif_t hc13 h
    refine zr_tableIn (off := 64) (tgt := 79) C (by rw [hc13]; decide) (by rw [hc13]; decide) (by rw [hc13]; decide) (by decide) dX5_ofNode_15 ?_
    refine zr_aload C 0 rfl dX5_ofNode_79 ?_
    refine zr_iload_n C 3 rfl rfl dX5_ofNode_81 ?_
    refine zr_aload C 0 rfl dX5_ofNode_82 ?_
    refine zr_get (ci := 3) (k := 2) (v := .ref (F (G (F h0 5) p0.toNatClampNeg) 2)) C (zt9 hZ (zt55 hZ k_h0).1 (z_ix (zt55 hZ k_h0).2 hc3)) (by decide) rfl zinX3 (by decide) wd_131 rfl dX5_ofNode_84 ?_
    refine zr_iload_n C 3 rfl rfl dX5_ofNode_87 ?_
    obtain ⟨hc14, h⟩ := zck_e h
    refine zr_iald C (zt3 hZ (zt9 hZ (zt55 hZ k_h0).1 (z_ix (zt55 hZ k_h0).2 hc3)) 2 (by decide)).1 (zt3 hZ (zt9 hZ (zt55 hZ k_h0).1 (z_ix (zt55 hZ k_h0).2 hc3)) 2 (by decide)).2 hc14 dX5_ofNode_88 ?_
    refine zr_aload_n C 1 rfl rfl dX5_ofNode_89 ?_
    refine zr_get (ci := 5) (k := 6) (v := .ref (F h0 6)) C k_h0 (by decide) rfl zinX5 (by decide) wd_164 rfl dX5_ofNode_90 ?_
    obtain ⟨r15, h16, h⟩ := zb_e h
    refine zr_callVi (n := 3) (As := [.int p1, .int (A (F (G (F h0 5) p0.toNatClampNeg) 2) p1.toNatClampNeg), .ref (F h0 6)]) C (c_X3_clashesOf l D cy hZ (G (F h0 5) p0.toNatClampNeg) p1 (A (F (G (F h0 5) p0.toNatClampNeg) 2) p1.toNatClampNeg) (F h0 6) (zt9 hZ (zt55 hZ k_h0).1 (z_ix (zt55 hZ k_h0).2 hc3)) (zt56 hZ k_h0) I A h16) wd_632 wd_347 wd_348 wd_6 wd_349 (by decide +kernel) ⟨(Nat.le_of_ble_eq_true rfl), (Nat.le_of_ble_eq_true rfl)⟩ rfl rfl ⟨Nat.le_refl _, Nat.le_refl _⟩ (zt9 hZ (zt55 hZ k_h0).1 (z_ix (zt55 hZ k_h0).2 hc3)) (by decide) rfl rfl rfl (Nat.le_of_ble_eq_true rfl) dX5_ofNode_93 ?_
    obtain rfl := zso h
    exact zr_iret C hr dX5_ofNode_96
  have h := zif_f hc13 h
  by_cases hc18 : p2 = 4
  · have h := zif_t hc18 h
    refine zr_tableIn (off := 82) (tgt := 97) C (by rw [hc18]; decide) (by rw [hc18]; decide) (by rw [hc18]; decide) (by decide) dX5_ofNode_15 ?_
    refine zr_aload C 0 rfl dX5_ofNode_97 ?_
    refine zr_get (ci := 3) (k := 1) (v := .ref (F (G (F h0 5) p0.toNatClampNeg) 1)) C (zt9 hZ (zt55 hZ k_h0).1 (z_ix (zt55 hZ k_h0).2 hc3)) (by decide) rfl zinX3 (by decide) wd_129 rfl dX5_ofNode_99 ?_
    refine zr_iload_n C 3 rfl rfl dX5_ofNode_102 ?_
    obtain ⟨hc19, h⟩ := zck_e h
    refine zr_iald C (zt3 hZ (zt9 hZ (zt55 hZ k_h0).1 (z_ix (zt55 hZ k_h0).2 hc3)) 1 (by decide)).1 (zt3 hZ (zt9 hZ (zt55 hZ k_h0).1 (z_ix (zt55 hZ k_h0).2 hc3)) 1 (by decide)).2 hc19 dX5_ofNode_103 ?_
    obtain ⟨r20, h21, h⟩ := zb_e h
    refine zr_callSi (n := 1) (As := [.int (A (F (G (F h0 5) p0.toNatClampNeg) 1) p1.toNatClampNeg)]) C (c_J6_bitCount_0f7a4 l D cy hZ (A (F (G (F h0 5) p0.toNatClampNeg) 1) p1.toNatClampNeg) I A h21) wd_503 wd_359 wd_12 wd_360 (by decide +kernel) ⟨(Nat.le_of_ble_eq_true rfl), (Nat.le_of_ble_eq_true rfl)⟩ rfl rfl ⟨Nat.le_refl _, Nat.le_refl _⟩ rfl rfl (Nat.le_of_ble_eq_true rfl) dX5_ofNode_104 ?_
    obtain rfl := zso h
    exact zr_iret C hr dX5_ofNode_107
  have h := zif_f hc18 h
  refine zr_tableOut (tgt := 108) C (zsw_0_4 hc4 hc6 hc8 hc13 hc18) (by decide) dX5_ofNode_15 ?_
  exact zno h
end
section
def g_X5_substitute_38 (F G : Nat → Nat → Nat) (v0 : Nat) (v2 : Int32) (v3 : Nat) (v4 : Int32) (v5 : Int32) (v6 : Int32) (v7 : Int32) (I : zH) (A : zH) : Option ((Int32 × Int32 × Int32) ⊕ (Int32 × Int32 × Int32)) :=
  if (I v0 8) ≤ v7 then (
    some (.inr (v5, v6, v7))
  ) else (
    zck (¬ (v4 < 0 ∨ 16 ≤ v4.toNatClampNeg)) <|
    zck (¬ (v7 < 0 ∨ 16 ≤ v7.toNatClampNeg)) <|
    if v7 = v4 then (
      some (.inl (v5, v6, v7 + 1))
    ) else (
      if (A (G (F v0 2) v4.toNatClampNeg) v7.toNatClampNeg) ≤ v6 then (
        some (.inl (v5, v6, v7 + 1))
      ) else (
        zb (f_X3_clashesOf F G v3 v2 v7 (F v0 6) I A) fun r6 =>
        if r6 = 0 then (
          some (.inl (v7, A (G (F v0 2) v4.toNatClampNeg) v7.toNatClampNeg, v7 + 1))
        ) else (
          some (.inl (v5, v6, v7 + 1))
        )
      )
    )
  )
def f_X5_substitute (F G : Nat → Nat → Nat) (h0 : Nat) (p0 : Int32) (p1 : Int32) (I A : zH) : Option (Int32) :=
  zb (f_X5_needNode F G h0 p0 p1 I A) fun _ =>
  zck (¬ (p0 < 0 ∨ 5 ≤ p0.toNatClampNeg)) <|
  zck (¬ (p1 < 0 ∨ 10 ≤ p1.toNatClampNeg)) <|
  if (A (F (G (F h0 5) p0.toNatClampNeg) 2) p1.toNatClampNeg) = (-1) then (
    some (-1)
  ) else (
    zb3 (zIt (fun x => g_X5_substitute_38 F G h0 p1 (G (F h0 5) p0.toNatClampNeg) (A (F (G (F h0 5) p0.toNatClampNeg) 2) p1.toNatClampNeg) x.1 x.2.1 x.2.2 I A) 2000 ((-1), (-1), 0)) fun i6 i7 i8 =>
    some i6
  )
set_option maxHeartbeats 4000000 in
set_option maxRecDepth 100000 in
theorem wb_X5_substitute_38 (l : Launch) (D : va_G) (cy : Nat → ClassId) {L : List Nat} {K N : Nat → Nat} {F G : Nat → Nat → Nat} (hZ : ZL L K N F G) {p : Program} {e : Env} {R : Room} {s : State} {m : MethodId} {args : Array Value} {below : List Frame} {meth : Method} {c : Code} {cells slots : Nat} {Q : State → Prop} (C : ZC p s m args meth c cX5_substitute yX5_substitute.cls 9 D cy L K N F G) (hRf : 2 ≤ R.frames) (hRl : 50 ≤ R.locals) (hRc : cells ≤ R.cells ∧ slots ≤ R.slots)  (v0 : Nat) (v2 : Int32) (v3 : Nat) (v4 : Int32) (k0 : K v0 = 5) (k3 : K v3 = 3) (I : zH) (A : zH) (v5 : Int32) (v6 : Int32) (v7 : Int32) (o : (Int32 × Int32 × Int32) ⊕ (Int32 × Int32 × Int32)) (h : g_X5_substitute_38 F G v0 v2 v3 v4 v5 v6 v7 I A = some o)
    (hg : ∀ y : Int32 × Int32 × Int32, o = .inl y → ZW p l e R s m args below meth c 9 D cy L K N F G cells slots Q I A 38 [(0, .ref v0), (2, .int v2), (3, .ref v3), (4, .int v4), (5, .int y.1), (6, .int y.2.1), (7, .int y.2.2)] [])
    (hx : ∀ y : Int32 × Int32 × Int32, o = .inr y → ZW p l e R s m args below meth c 9 D cy L K N F G cells slots Q I A 101 [(0, .ref v0), (2, .int v2), (3, .ref v3), (4, .int v4), (5, .int y.1), (6, .int y.2.1), (7, .int y.2.2)] []) : ZW p l e R s m args below meth c 9 D cy L K N F G cells slots Q I A 38 [(0, .ref v0), (2, .int v2), (3, .ref v3), (4, .int v4), (5, .int v5), (6, .int v6), (7, .int v7)] [] := by
  unfold g_X5_substitute_38 at h
  refine zr_iload C 6 rfl dX5_substitute_38 ?_
  refine zr_aload_n C 0 rfl rfl dX5_substitute_40 ?_
  refine zr_get (ci := 5) (k := 8) (v := .int (I v0 8)) C k0 (by decide) rfl zinX5 (by decide) wd_166 rfl dX5_substitute_41 ?_
  refine zr_icmp_ge (tgt := 101) C (by decide) dX5_substitute_44 (fun hc1 => ?_) (fun hc1 => ?_)
  · have h := zif_t hc1 h
    obtain rfl := zso h
    refine zr_lv (lv' := [(0, .ref v0), (2, .int v2), (3, .ref v3), (4, .int v4), (5, .int v5), (6, .int v6), (7, .int v7)]) C [0, 1, 2, 3, 4, 5, 6] rfl ?_
    exact hx _ rfl
  · have h := zif_f hc1 h
    refine zr_aload_n C 0 rfl rfl dX5_substitute_47 ?_
    refine zr_get (ci := 5) (k := 2) (v := .ref (F v0 2)) C k0 (by decide) rfl zinX5 (by decide) wd_160 rfl dX5_substitute_48 ?_
    refine zr_iload C 3 rfl dX5_substitute_51 ?_
    obtain ⟨hc2, h⟩ := zck_e h
    refine zr_ald10 C (zt52 hZ k0).1 (zt52 hZ k0).2 hc2 dX5_substitute_53 ?_
    refine zr_iload C 6 rfl dX5_substitute_54 ?_
    obtain ⟨hc3, h⟩ := zck_e h
    refine zr_iald C (zt10 hZ (zt52 hZ k0).1 (z_ix (zt52 hZ k0).2 hc2)).1 (zt10 hZ (zt52 hZ k0).1 (z_ix (zt52 hZ k0).2 hc2)).2 hc3 dX5_substitute_56 ?_
    refine zr_istore (lv' := [(8, .int (A (G (F v0 2) v4.toNatClampNeg) v7.toNatClampNeg)), (0, .ref v0), (2, .int v2), (3, .ref v3), (4, .int v4), (5, .int v5), (6, .int v6), (7, .int v7)]) C (by decide) rfl dX5_substitute_57 ?_
    refine zr_iload C 7 rfl dX5_substitute_59 ?_
    refine zr_iload C 4 rfl dX5_substitute_61 ?_
    refine zr_icmp_eq (tgt := 95) C (by decide) dX5_substitute_63 (fun hc4 => ?_) (fun hc4 => ?_)
    · have h := zif_t hc4 h
      refine zr_iinc (v := v7 + 1) (lv' := [(7, .int (v7 + 1)), (8, .int (A (G (F v0 2) v4.toNatClampNeg) v7.toNatClampNeg)), (0, .ref v0), (2, .int v2), (3, .ref v3), (4, .int v4), (5, .int v5), (6, .int v6)]) C 7 rfl rfl (by decide) rfl dX5_substitute_95 ?_
      refine zr_goto (tgt := 38) C (by decide) dX5_substitute_98 ?_
      obtain rfl := zso h
      refine zr_lv (lv' := [(0, .ref v0), (2, .int v2), (3, .ref v3), (4, .int v4), (5, .int v5), (6, .int v6), (7, .int (v7 + 1))]) C [2, 3, 4, 5, 6, 7, 0] rfl ?_
      exact hg _ rfl
    · have h := zif_f hc4 h
      refine zr_iload C 0 rfl dX5_substitute_66 ?_
      refine zr_iload C 6 rfl dX5_substitute_68 ?_
      refine zr_icmp_le (tgt := 95) C (by decide) dX5_substitute_70 (fun hc5 => ?_) (fun hc5 => ?_)
      · have h := zif_t hc5 h
        refine zr_iinc (v := v7 + 1) (lv' := [(7, .int (v7 + 1)), (8, .int (A (G (F v0 2) v4.toNatClampNeg) v7.toNatClampNeg)), (0, .ref v0), (2, .int v2), (3, .ref v3), (4, .int v4), (5, .int v5), (6, .int v6)]) C 7 rfl rfl (by decide) rfl dX5_substitute_95 ?_
        refine zr_goto (tgt := 38) C (by decide) dX5_substitute_98 ?_
        obtain rfl := zso h
        refine zr_lv (lv' := [(0, .ref v0), (2, .int v2), (3, .ref v3), (4, .int v4), (5, .int v5), (6, .int v6), (7, .int (v7 + 1))]) C [2, 3, 4, 5, 6, 7, 0] rfl ?_
        exact hg _ rfl
      · have h := zif_f hc5 h
        refine zr_aload_n C 3 rfl rfl dX5_substitute_73 ?_
        refine zr_iload_n C 2 rfl rfl dX5_substitute_74 ?_
        refine zr_iload C 7 rfl dX5_substitute_75 ?_
        refine zr_aload_n C 1 rfl rfl dX5_substitute_77 ?_
        refine zr_get (ci := 5) (k := 6) (v := .ref (F v0 6)) C k0 (by decide) rfl zinX5 (by decide) wd_164 rfl dX5_substitute_78 ?_
        obtain ⟨r6, h7, h⟩ := zb_e h
        refine zr_callVi (n := 3) (As := [.int v2, .int v7, .ref (F v0 6)]) C (c_X3_clashesOf l D cy hZ v3 v2 v7 (F v0 6) k3 (zt56 hZ k0) I A h7) wd_632 wd_347 wd_348 wd_6 wd_349 (by decide +kernel) ⟨(Nat.le_trans (Nat.le_of_ble_eq_true rfl) hRf), (Nat.le_trans (Nat.le_of_ble_eq_true rfl) hRl)⟩ rfl rfl hRc k3 (by decide) rfl rfl rfl (Nat.le_of_ble_eq_true rfl) dX5_substitute_81 ?_
        refine zr_if_ne (tgt := 95) C (by decide) dX5_substitute_84 (fun hc9 => ?_) (fun hc9 => ?_)
        · have h := zif_f hc9 h
          refine zr_iinc (v := v7 + 1) (lv' := [(7, .int (v7 + 1)), (8, .int (A (G (F v0 2) v4.toNatClampNeg) v7.toNatClampNeg)), (0, .ref v0), (2, .int v2), (3, .ref v3), (4, .int v4), (5, .int v5), (6, .int v6)]) C 7 rfl rfl (by decide) rfl dX5_substitute_95 ?_
          refine zr_goto (tgt := 38) C (by decide) dX5_substitute_98 ?_
          obtain rfl := zso h
          refine zr_lv (lv' := [(0, .ref v0), (2, .int v2), (3, .ref v3), (4, .int v4), (5, .int v5), (6, .int v6), (7, .int (v7 + 1))]) C [2, 3, 4, 5, 6, 7, 0] rfl ?_
          exact hg _ rfl
        · have h := zif_t hc9 h
          refine zr_iload C 7 rfl dX5_substitute_87 ?_
          refine zr_istore (lv' := [(5, .int v7), (8, .int (A (G (F v0 2) v4.toNatClampNeg) v7.toNatClampNeg)), (0, .ref v0), (2, .int v2), (3, .ref v3), (4, .int v4), (6, .int v6), (7, .int v7)]) C (by decide) rfl dX5_substitute_89 ?_
          refine zr_iload C 1 rfl dX5_substitute_91 ?_
          refine zr_istore (lv' := [(6, .int (A (G (F v0 2) v4.toNatClampNeg) v7.toNatClampNeg)), (5, .int v7), (8, .int (A (G (F v0 2) v4.toNatClampNeg) v7.toNatClampNeg)), (0, .ref v0), (2, .int v2), (3, .ref v3), (4, .int v4), (7, .int v7)]) C (by decide) rfl dX5_substitute_93 ?_
          refine zr_iinc (v := v7 + 1) (lv' := [(7, .int (v7 + 1)), (6, .int (A (G (F v0 2) v4.toNatClampNeg) v7.toNatClampNeg)), (5, .int v7), (8, .int (A (G (F v0 2) v4.toNatClampNeg) v7.toNatClampNeg)), (0, .ref v0), (2, .int v2), (3, .ref v3), (4, .int v4)]) C 7 rfl rfl (by decide) rfl dX5_substitute_95 ?_
          refine zr_goto (tgt := 38) C (by decide) dX5_substitute_98 ?_
          obtain rfl := zso h
          refine zr_lv (lv' := [(0, .ref v0), (2, .int v2), (3, .ref v3), (4, .int v4), (5, .int v7), (6, .int (A (G (F v0 2) v4.toNatClampNeg) v7.toNatClampNeg)), (7, .int (v7 + 1))]) C [4, 5, 6, 7, 2, 1, 0] rfl ?_
          exact hg _ rfl
set_option maxHeartbeats 4000000 in
set_option maxRecDepth 100000 in
theorem w_X5_substitute_38 (l : Launch) (D : va_G) (cy : Nat → ClassId) {L : List Nat} {K N : Nat → Nat} {F G : Nat → Nat → Nat} (hZ : ZL L K N F G) {p : Program} {e : Env} {R : Room} {s : State} {m : MethodId} {args : Array Value} {below : List Frame} {meth : Method} {c : Code} {cells slots : Nat} {Q : State → Prop} (C : ZC p s m args meth c cX5_substitute yX5_substitute.cls 9 D cy L K N F G) (hRf : 2 ≤ R.frames) (hRl : 50 ≤ R.locals) (hRc : cells ≤ R.cells ∧ slots ≤ R.slots)  (v0 : Nat) (v2 : Int32) (v3 : Nat) (v4 : Int32) (k0 : K v0 = 5) (k3 : K v3 = 3) (I : zH) (A : zH) (n : Nat) (x : Int32 × Int32 × Int32) (o : Int32 × Int32 × Int32) (h : zIt (fun x => g_X5_substitute_38 F G v0 v2 v3 v4 x.1 x.2.1 x.2.2 I A) n x = some o)
    (hx : ZW p l e R s m args below meth c 9 D cy L K N F G cells slots Q I A 101 [(0, .ref v0), (2, .int v2), (3, .ref v3), (4, .int v4), (5, .int o.1), (6, .int o.2.1), (7, .int o.2.2)] []) : ZW p l e R s m args below meth c 9 D cy L K N F G cells slots Q I A 38 [(0, .ref v0), (2, .int v2), (3, .ref v3), (4, .int v4), (5, .int x.1), (6, .int x.2.1), (7, .int x.2.2)] [] := by
  induction n generalizing x with
  | zero => cases h
  | succ n ih =>
    unfold zIt at h
    cases hb : g_X5_substitute_38 F G v0 v2 v3 v4 x.1 x.2.1 x.2.2 I A with
    | none => rw [hb] at h; cases h
    | some q =>
      rw [hb] at h
      refine wb_X5_substitute_38 l D cy hZ C hRf hRl hRc v0 v2 v3 v4 k0 k3 I A x.1 x.2.1 x.2.2 q hb (fun y hy => ?_) (fun y hy => ?_)
      · subst hy; exact ih y h
      · subst hy; cases h; exact hx
set_option maxHeartbeats 4000000 in
set_option maxRecDepth 100000 in
theorem c_X5_substitute (l : Launch) (D : va_G) (cy : Nat → ClassId) {L : List Nat} {K N : Nat → Nat} {F G : Nat → Nat → Nat} (hZ : ZL L K N F G) (h0 : Nat) (p0 : Int32) (p1 : Int32) (k_h0 : K h0 = 5) (I A : zH) {r : Int32} (h : f_X5_substitute F G h0 p0 p1 I A = some r) : ZMi l yX5_substitute cX5_substitute 9 (some .int) { frames := 3, cells := 0, slots := 0, locals := 64 } D cy L K N F G [.ref h0, .int p0, .int p1] I A r I A := by
  refine ZMi.of (nL := 9) hZ rfl rfl (by decide) (Nat.le_of_ble_eq_true rfl) (fun p e s m args below meth c C hr => ?_)
  unfold f_X5_substitute at h
  refine zr_lv (lv' := [(0, .ref h0), (1, .int p0), (2, .int p1)]) C [0, 1, 2] rfl ?_
  refine zr_aload_n C 0 rfl rfl dX5_substitute_0 ?_
  refine zr_iload_n C 1 rfl rfl dX5_substitute_1 ?_
  refine zr_iload_n C 2 rfl rfl dX5_substitute_2 ?_
  obtain ⟨_, h1, h⟩ := zb_e h
  refine zr_callVv (n := 2) (As := [.int p0, .int p1]) C (c_X5_needNode l D cy hZ h0 p0 p1 k_h0 I A h1) wd_464 wd_466 wp_16 wd_1 wd_467 (by decide +kernel) ⟨(Nat.le_of_ble_eq_true rfl), (Nat.le_of_ble_eq_true rfl)⟩ rfl rfl ⟨Nat.le_refl _, Nat.le_refl _⟩ k_h0 (by decide) rfl rfl rfl (Nat.le_of_ble_eq_true rfl) dX5_substitute_3 ?_
  refine zr_aload_n C 0 rfl rfl dX5_substitute_6 ?_
  refine zr_get (ci := 5) (k := 5) (v := .ref (F h0 5)) C k_h0 (by decide) rfl zinX5 (by decide) wd_163 rfl dX5_substitute_7 ?_
  refine zr_iload_n C 1 rfl rfl dX5_substitute_10 ?_
  obtain ⟨hc3, h⟩ := zck_e h
  refine zr_ald9 C (zt55 hZ k_h0).1 (zt55 hZ k_h0).2 hc3 dX5_substitute_11 ?_
  refine zr_astore_n (lv' := [(3, .ref (G (F h0 5) p0.toNatClampNeg)), (0, .ref h0), (1, .int p0), (2, .int p1)]) C rfl (by decide) rfl dX5_substitute_12 ?_
  refine zr_aload_n C 0 rfl rfl dX5_substitute_13 ?_
  refine zr_get (ci := 3) (k := 2) (v := .ref (F (G (F h0 5) p0.toNatClampNeg) 2)) C (zt9 hZ (zt55 hZ k_h0).1 (z_ix (zt55 hZ k_h0).2 hc3)) (by decide) rfl zinX3 (by decide) wd_131 rfl dX5_substitute_14 ?_
  refine zr_iload_n C 3 rfl rfl dX5_substitute_17 ?_
  obtain ⟨hc4, h⟩ := zck_e h
  refine zr_iald C (zt3 hZ (zt9 hZ (zt55 hZ k_h0).1 (z_ix (zt55 hZ k_h0).2 hc3)) 2 (by decide)).1 (zt3 hZ (zt9 hZ (zt55 hZ k_h0).1 (z_ix (zt55 hZ k_h0).2 hc3)) 2 (by decide)).2 hc4 dX5_substitute_18 ?_
  refine zr_istore (lv' := [(4, .int (A (F (G (F h0 5) p0.toNatClampNeg) 2) p1.toNatClampNeg)), (3, .ref (G (F h0 5) p0.toNatClampNeg)), (0, .ref h0), (1, .int p0), (2, .int p1)]) C (by decide) rfl dX5_substitute_19 ?_
  refine zr_iload C 0 rfl dX5_substitute_21 ?_
  refine zr_iconst (v := (-1)) C (by decide) dX5_substitute_23 ?_
  refine zr_icmp_ne (tgt := 29) C (by decide) dX5_substitute_24 (fun hc5 => ?_) (fun hc5 => ?_)
  · have h := zif_f hc5 h
    refine zr_iconst (v := (-1)) C (by decide) dX5_substitute_29 ?_
    refine zr_istore (lv' := [(5, .int (-1)), (4, .int (A (F (G (F h0 5) p0.toNatClampNeg) 2) p1.toNatClampNeg)), (3, .ref (G (F h0 5) p0.toNatClampNeg)), (0, .ref h0), (1, .int p0), (2, .int p1)]) C (by decide) rfl dX5_substitute_30 ?_
    refine zr_iconst (v := (-1)) C (by decide) dX5_substitute_32 ?_
    refine zr_istore (lv' := [(6, .int (-1)), (5, .int (-1)), (4, .int (A (F (G (F h0 5) p0.toNatClampNeg) 2) p1.toNatClampNeg)), (3, .ref (G (F h0 5) p0.toNatClampNeg)), (0, .ref h0), (1, .int p0), (2, .int p1)]) C (by decide) rfl dX5_substitute_33 ?_
    refine zr_iconst (v := 0) C (by decide) dX5_substitute_35 ?_
    refine zr_istore (lv' := [(7, .int 0), (6, .int (-1)), (5, .int (-1)), (4, .int (A (F (G (F h0 5) p0.toNatClampNeg) 2) p1.toNatClampNeg)), (3, .ref (G (F h0 5) p0.toNatClampNeg)), (0, .ref h0), (1, .int p0), (2, .int p1)]) C (by decide) rfl dX5_substitute_36 ?_
    obtain ⟨i6, i7, i8, h9, h⟩ := zb3_e h
    refine zr_lv (lv' := [(0, .ref h0), (2, .int p1), (3, .ref (G (F h0 5) p0.toNatClampNeg)), (4, .int (A (F (G (F h0 5) p0.toNatClampNeg) 2) p1.toNatClampNeg)), (5, .int (-1)), (6, .int (-1)), (7, .int 0)]) C [5, 7, 4, 3, 2, 1, 0] rfl ?_
    refine w_X5_substitute_38 l D cy hZ C (Nat.le_of_ble_eq_true rfl) (Nat.le_of_ble_eq_true rfl) ⟨Nat.le_refl _, Nat.le_refl _⟩ h0 p1 (G (F h0 5) p0.toNatClampNeg) (A (F (G (F h0 5) p0.toNatClampNeg) 2) p1.toNatClampNeg) k_h0 (zt9 hZ (zt55 hZ k_h0).1 (z_ix (zt55 hZ k_h0).2 hc3)) I A 2000 ((-1), (-1), 0) (i6, i7, i8) h9 ?_
    refine zr_iload C 4 rfl dX5_substitute_101 ?_
    obtain rfl := zso h
    exact zr_iret C hr dX5_substitute_103
  · have h := zif_t hc5 h
    refine zr_iconst (v := (-1)) C (by decide) dX5_substitute_27 ?_
    obtain rfl := zso h
    exact zr_iret C hr dX5_substitute_28

def g_X5_foldNode_6 (F G : Nat → Nat → Nat) (v0 : Nat) (v3 : Int32) (v4 : Int32) (v5 : Int64) (v7 : Int32) (I : zH) (A : zH) : Option ((Int64 × Int32) ⊕ (Int64 × Int32)) :=
  if 5 ≤ v7 then (
    some (.inr (v5, v7))
  ) else (
    zb (f_X5_ofNode F G v0 v3 v4 v7 I A) fun r2 =>
    zb (f_X5_fold F G v5 r2 I A) fun r5 =>
    some (.inl (r5, v7 + 1))
  )
def f_X5_foldNode (F G : Nat → Nat → Nat) (h0 : Nat) (p0 : Int64) (p1 : Int32) (p2 : Int32) (I A : zH) : Option (Int64) :=
  zb2 (zIt (fun x => g_X5_foldNode_6 F G h0 p1 p2 x.1 x.2 I A) 2000 (p0, 0)) fun j1 i2 =>
  zb (f_X5_substitute F G h0 p1 p2 I A) fun r3 =>
  zb (f_X5_fold F G j1 r3 I A) fun r6 =>
  some r6
set_option maxHeartbeats 4000000 in
set_option maxRecDepth 100000 in
theorem wb_X5_foldNode_6 (l : Launch) (D : va_G) (cy : Nat → ClassId) {L : List Nat} {K N : Nat → Nat} {F G : Nat → Nat → Nat} (hZ : ZL L K N F G) {p : Program} {e : Env} {R : Room} {s : State} {m : MethodId} {args : Array Value} {below : List Frame} {meth : Method} {c : Code} {cells slots : Nat} {Q : State → Prop} (C : ZC p s m args meth c cX5_foldNode yX5_foldNode.cls 8 D cy L K N F G) (hRf : 4 ≤ R.frames) (hRl : 88 ≤ R.locals) (hRc : cells ≤ R.cells ∧ slots ≤ R.slots)  (v0 : Nat) (v3 : Int32) (v4 : Int32) (k0 : K v0 = 5) (I : zH) (A : zH) (v5 : Int64) (v7 : Int32) (o : (Int64 × Int32) ⊕ (Int64 × Int32)) (h : g_X5_foldNode_6 F G v0 v3 v4 v5 v7 I A = some o)
    (hg : ∀ y : Int64 × Int32, o = .inl y → ZW p l e R s m args below meth c 8 D cy L K N F G cells slots Q I A 6 [(0, .ref v0), (3, .int v3), (4, .int v4), (5, .long y.1), (7, .int y.2)] [])
    (hx : ∀ y : Int64 × Int32, o = .inr y → ZW p l e R s m args below meth c 8 D cy L K N F G cells slots Q I A 34 [(0, .ref v0), (3, .int v3), (4, .int v4), (5, .long y.1), (7, .int y.2)] []) : ZW p l e R s m args below meth c 8 D cy L K N F G cells slots Q I A 6 [(0, .ref v0), (3, .int v3), (4, .int v4), (5, .long v5), (7, .int v7)] [] := by
  unfold g_X5_foldNode_6 at h
  refine zr_iload C 4 rfl dX5_foldNode_6 ?_
  refine zr_iconst (v := 5) C (by decide) dX5_foldNode_8 ?_
  refine zr_icmp_ge (tgt := 34) C (by decide) dX5_foldNode_9 (fun hc1 => ?_) (fun hc1 => ?_)
  · have h := zif_t hc1 h
    obtain rfl := zso h
    refine zr_lv (lv' := [(0, .ref v0), (3, .int v3), (4, .int v4), (5, .long v5), (7, .int v7)]) C [0, 1, 2, 3, 4] rfl ?_
    exact hx _ rfl
  · have h := zif_f hc1 h
    refine zr_lload C 3 rfl dX5_foldNode_12 ?_
    refine zr_aload_n C 0 rfl rfl dX5_foldNode_14 ?_
    refine zr_iload_n C 1 rfl rfl dX5_foldNode_15 ?_
    refine zr_iload C 2 rfl dX5_foldNode_16 ?_
    refine zr_iload C 4 rfl dX5_foldNode_18 ?_
    obtain ⟨r2, h3, h⟩ := zb_e h
    refine zr_callVi (n := 3) (As := [.int v3, .int v4, .int v7]) C (c_X5_ofNode l D cy hZ v0 v3 v4 v7 k0 I A h3) wd_628 wd_629 wd_630 wd_1 wd_631 (by decide +kernel) ⟨(Nat.le_trans (Nat.le_of_ble_eq_true rfl) hRf), (Nat.le_trans (Nat.le_of_ble_eq_true rfl) hRl)⟩ rfl rfl hRc k0 (by decide) rfl rfl rfl (Nat.le_of_ble_eq_true rfl) dX5_foldNode_20 ?_
    obtain ⟨r5, h6, h⟩ := zb_e h
    refine zr_callSl (n := 2) (As := [.long v5, .int r2]) C (c_X5_fold l D cy hZ v5 r2 I A h6) wd_599 wd_600 wd_1 wd_601 (by decide +kernel) ⟨(Nat.le_trans (Nat.le_of_ble_eq_true rfl) hRf), (Nat.le_trans (Nat.le_of_ble_eq_true rfl) hRl)⟩ rfl rfl hRc rfl rfl (Nat.le_of_ble_eq_true rfl) dX5_foldNode_23 ?_
    refine zr_lstore (lv' := [(5, .long r5), (0, .ref v0), (3, .int v3), (4, .int v4), (7, .int v7)]) C (by decide) rfl dX5_foldNode_26 ?_
    refine zr_iinc (v := v7 + 1) (lv' := [(7, .int (v7 + 1)), (5, .long r5), (0, .ref v0), (3, .int v3), (4, .int v4)]) C 4 rfl rfl (by decide) rfl dX5_foldNode_28 ?_
    refine zr_goto (tgt := 6) C (by decide) dX5_foldNode_31 ?_
    obtain rfl := zso h
    refine zr_lv (lv' := [(0, .ref v0), (3, .int v3), (4, .int v4), (5, .long r5), (7, .int (v7 + 1))]) C [2, 3, 4, 1, 0] rfl ?_
    exact hg _ rfl
set_option maxHeartbeats 4000000 in
set_option maxRecDepth 100000 in
theorem w_X5_foldNode_6 (l : Launch) (D : va_G) (cy : Nat → ClassId) {L : List Nat} {K N : Nat → Nat} {F G : Nat → Nat → Nat} (hZ : ZL L K N F G) {p : Program} {e : Env} {R : Room} {s : State} {m : MethodId} {args : Array Value} {below : List Frame} {meth : Method} {c : Code} {cells slots : Nat} {Q : State → Prop} (C : ZC p s m args meth c cX5_foldNode yX5_foldNode.cls 8 D cy L K N F G) (hRf : 4 ≤ R.frames) (hRl : 88 ≤ R.locals) (hRc : cells ≤ R.cells ∧ slots ≤ R.slots)  (v0 : Nat) (v3 : Int32) (v4 : Int32) (k0 : K v0 = 5) (I : zH) (A : zH) (n : Nat) (x : Int64 × Int32) (o : Int64 × Int32) (h : zIt (fun x => g_X5_foldNode_6 F G v0 v3 v4 x.1 x.2 I A) n x = some o)
    (hx : ZW p l e R s m args below meth c 8 D cy L K N F G cells slots Q I A 34 [(0, .ref v0), (3, .int v3), (4, .int v4), (5, .long o.1), (7, .int o.2)] []) : ZW p l e R s m args below meth c 8 D cy L K N F G cells slots Q I A 6 [(0, .ref v0), (3, .int v3), (4, .int v4), (5, .long x.1), (7, .int x.2)] [] := by
  induction n generalizing x with
  | zero => cases h
  | succ n ih =>
    unfold zIt at h
    cases hb : g_X5_foldNode_6 F G v0 v3 v4 x.1 x.2 I A with
    | none => rw [hb] at h; cases h
    | some q =>
      rw [hb] at h
      refine wb_X5_foldNode_6 l D cy hZ C hRf hRl hRc v0 v3 v4 k0 I A x.1 x.2 q hb (fun y hy => ?_) (fun y hy => ?_)
      · subst hy; exact ih y h
      · subst hy; cases h; exact hx
set_option maxHeartbeats 4000000 in
set_option maxRecDepth 100000 in
theorem c_X5_foldNode (l : Launch) (D : va_G) (cy : Nat → ClassId) {L : List Nat} {K N : Nat → Nat} {F G : Nat → Nat → Nat} (hZ : ZL L K N F G) (h0 : Nat) (p0 : Int64) (p1 : Int32) (p2 : Int32) (k_h0 : K h0 = 5) (I A : zH) {r : Int64} (h : f_X5_foldNode F G h0 p0 p1 p2 I A = some r) : ZMl l yX5_foldNode cX5_foldNode 8 (some .long) { frames := 4, cells := 0, slots := 0, locals := 92 } D cy L K N F G [.ref h0, .long p0, .int p1, .int p2] I A r I A := by
  refine ZMl.of (nL := 8) hZ rfl rfl (by decide) (Nat.le_of_ble_eq_true rfl) (fun p e s m args below meth c C hr => ?_)
  unfold f_X5_foldNode at h
  refine zr_lv (lv' := [(0, .ref h0), (1, .long p0), (3, .int p1), (4, .int p2)]) C [0, 1, 2, 3] rfl ?_
  refine zr_lload_n C 1 rfl rfl dX5_foldNode_0 ?_
  refine zr_lstore (lv' := [(5, .long p0), (0, .ref h0), (1, .long p0), (3, .int p1), (4, .int p2)]) C (by decide) rfl dX5_foldNode_1 ?_
  refine zr_iconst (v := 0) C (by decide) dX5_foldNode_3 ?_
  refine zr_istore (lv' := [(7, .int 0), (5, .long p0), (0, .ref h0), (1, .long p0), (3, .int p1), (4, .int p2)]) C (by decide) rfl dX5_foldNode_4 ?_
  obtain ⟨j1, i2, h9, h⟩ := zb2_e h
  refine zr_lv (lv' := [(0, .ref h0), (3, .int p1), (4, .int p2), (5, .long p0), (7, .int 0)]) C [2, 4, 5, 1, 0] rfl ?_
  refine w_X5_foldNode_6 l D cy hZ C (Nat.le_of_ble_eq_true rfl) (Nat.le_of_ble_eq_true rfl) ⟨Nat.le_refl _, Nat.le_refl _⟩ h0 p1 p2 k_h0 I A 2000 (p0, 0) (j1, i2) h9 ?_
  refine zr_lload C 3 rfl dX5_foldNode_34 ?_
  refine zr_aload_n C 0 rfl rfl dX5_foldNode_36 ?_
  refine zr_iload_n C 1 rfl rfl dX5_foldNode_37 ?_
  refine zr_iload C 2 rfl dX5_foldNode_38 ?_
  obtain ⟨r3, h4, h⟩ := zb_e h
  refine zr_callVi (n := 2) (As := [.int p1, .int p2]) C (c_X5_substitute l D cy hZ h0 p1 p2 k_h0 I A h4) wd_634 wd_635 wd_636 wd_1 wd_637 (by decide +kernel) ⟨(Nat.le_of_ble_eq_true rfl), (Nat.le_of_ble_eq_true rfl)⟩ rfl rfl ⟨Nat.le_refl _, Nat.le_refl _⟩ k_h0 (by decide) rfl rfl rfl (Nat.le_of_ble_eq_true rfl) dX5_foldNode_40 ?_
  obtain ⟨r6, h7, h⟩ := zb_e h
  refine zr_callSl (n := 2) (As := [.long j1, .int r3]) C (c_X5_fold l D cy hZ j1 r3 I A h7) wd_599 wd_600 wd_1 wd_601 (by decide +kernel) ⟨(Nat.le_of_ble_eq_true rfl), (Nat.le_of_ble_eq_true rfl)⟩ rfl rfl ⟨Nat.le_refl _, Nat.le_refl _⟩ rfl rfl (Nat.le_of_ble_eq_true rfl) dX5_foldNode_43 ?_
  obtain rfl := zso h
  exact zr_lret C hr dX5_foldNode_46

def g_X5_foldProject_6 (F G : Nat → Nat → Nat) (v0 : Nat) (v3 : Int32) (v4 : Int64) (v6 : Int32) (I : zH) (A : zH) : Option ((Int64 × Int32) ⊕ (Int64 × Int32)) :=
  if 7 ≤ v6 then (
    some (.inr (v4, v6))
  ) else (
    zb (f_X5_ofProject F G v0 v3 v6 I A) fun r2 =>
    zb (f_X5_fold F G v4 r2 I A) fun r5 =>
    some (.inl (r5, v6 + 1))
  )
def g_X5_foldProject_48 (F G : Nat → Nat → Nat) (v0 : Nat) (v3 : Int32) (v4 : Int64) (v6 : Int32) (I : zH) (A : zH) : Option ((Int64 × Int32) ⊕ (Int64 × Int32)) :=
  if 10 ≤ v6 then (
    some (.inr (v4, v6))
  ) else (
    zck (¬ (v3 < 0 ∨ 5 ≤ v3.toNatClampNeg)) <|
    zb (f_X3_hasNode F G (G (F v0 5) v3.toNatClampNeg) v6 I A) fun r3 =>
    if r3 = 0 then (
      some (.inl (v4, v6 + 1))
    ) else (
      zb (f_X5_foldNode F G v0 v4 v3 v6 I A) fun r7 =>
      some (.inl (r7, v6 + 1))
    )
  )
def f_X5_foldProject (F G : Nat → Nat → Nat) (h0 : Nat) (p0 : Int64) (p1 : Int32) (I A : zH) : Option (Int64 × zH) :=
  zb2 (zIt (fun x => g_X5_foldProject_6 F G h0 p1 x.1 x.2 I A) 2000 (p0, 0)) fun j1 i2 =>
  zb2 (f_X5_remedy F G h0 p1 I A) fun r3 A4 =>
  zb (f_X5_fold F G j1 r3 I A4) fun r7 =>
  zb2 (zIt (fun x => g_X5_foldProject_48 F G h0 p1 x.1 x.2 I A4) 2000 (r7, 0)) fun j10 i11 =>
  some (j10, A4)
set_option maxHeartbeats 4000000 in
set_option maxRecDepth 100000 in
theorem wb_X5_foldProject_6 (l : Launch) (D : va_G) (cy : Nat → ClassId) {L : List Nat} {K N : Nat → Nat} {F G : Nat → Nat → Nat} (hZ : ZL L K N F G) {p : Program} {e : Env} {R : Room} {s : State} {m : MethodId} {args : Array Value} {below : List Frame} {meth : Method} {c : Code} {cells slots : Nat} {Q : State → Prop} (C : ZC p s m args meth c cX5_foldProject yX5_foldProject.cls 7 D cy L K N F G) (hRf : 4 ≤ R.frames) (hRl : 97 ≤ R.locals) (hRc : cells ≤ R.cells ∧ slots ≤ R.slots)  (v0 : Nat) (v3 : Int32) (k0 : K v0 = 5) (I : zH) (A : zH) (v4 : Int64) (v6 : Int32) (o : (Int64 × Int32) ⊕ (Int64 × Int32)) (h : g_X5_foldProject_6 F G v0 v3 v4 v6 I A = some o)
    (hg : ∀ y : Int64 × Int32, o = .inl y → ZW p l e R s m args below meth c 7 D cy L K N F G cells slots Q I A 6 [(0, .ref v0), (3, .int v3), (4, .long y.1), (6, .int y.2)] [])
    (hx : ∀ y : Int64 × Int32, o = .inr y → ZW p l e R s m args below meth c 7 D cy L K N F G cells slots Q I A 33 [(0, .ref v0), (3, .int v3), (4, .long y.1), (6, .int y.2)] []) : ZW p l e R s m args below meth c 7 D cy L K N F G cells slots Q I A 6 [(0, .ref v0), (3, .int v3), (4, .long v4), (6, .int v6)] [] := by
  unfold g_X5_foldProject_6 at h
  refine zr_iload C 3 rfl dX5_foldProject_6 ?_
  refine zr_bipush (v := 7) C (by decide) dX5_foldProject_8 ?_
  refine zr_icmp_ge (tgt := 33) C (by decide) dX5_foldProject_10 (fun hc1 => ?_) (fun hc1 => ?_)
  · have h := zif_t hc1 h
    obtain rfl := zso h
    refine zr_lv (lv' := [(0, .ref v0), (3, .int v3), (4, .long v4), (6, .int v6)]) C [0, 1, 2, 3] rfl ?_
    exact hx _ rfl
  · have h := zif_f hc1 h
    refine zr_lload C 2 rfl dX5_foldProject_13 ?_
    refine zr_aload_n C 0 rfl rfl dX5_foldProject_15 ?_
    refine zr_iload_n C 1 rfl rfl dX5_foldProject_16 ?_
    refine zr_iload C 3 rfl dX5_foldProject_17 ?_
    obtain ⟨r2, h3, h⟩ := zb_e h
    refine zr_callVi (n := 2) (As := [.int v3, .int v6]) C (c_X5_ofProject l D cy hZ v0 v3 v6 k0 I A h3) wd_622 wd_500 wd_501 wd_1 wd_502 (by decide +kernel) ⟨(Nat.le_trans (Nat.le_of_ble_eq_true rfl) hRf), (Nat.le_trans (Nat.le_of_ble_eq_true rfl) hRl)⟩ rfl rfl hRc k0 (by decide) rfl rfl rfl (Nat.le_of_ble_eq_true rfl) dX5_foldProject_19 ?_
    obtain ⟨r5, h6, h⟩ := zb_e h
    refine zr_callSl (n := 2) (As := [.long v4, .int r2]) C (c_X5_fold l D cy hZ v4 r2 I A h6) wd_599 wd_600 wd_1 wd_601 (by decide +kernel) ⟨(Nat.le_trans (Nat.le_of_ble_eq_true rfl) hRf), (Nat.le_trans (Nat.le_of_ble_eq_true rfl) hRl)⟩ rfl rfl hRc rfl rfl (Nat.le_of_ble_eq_true rfl) dX5_foldProject_22 ?_
    refine zr_lstore (lv' := [(4, .long r5), (0, .ref v0), (3, .int v3), (6, .int v6)]) C (by decide) rfl dX5_foldProject_25 ?_
    refine zr_iinc (v := v6 + 1) (lv' := [(6, .int (v6 + 1)), (4, .long r5), (0, .ref v0), (3, .int v3)]) C 3 rfl rfl (by decide) rfl dX5_foldProject_27 ?_
    refine zr_goto (tgt := 6) C (by decide) dX5_foldProject_30 ?_
    obtain rfl := zso h
    refine zr_lv (lv' := [(0, .ref v0), (3, .int v3), (4, .long r5), (6, .int (v6 + 1))]) C [2, 3, 1, 0] rfl ?_
    exact hg _ rfl
set_option maxHeartbeats 4000000 in
set_option maxRecDepth 100000 in
theorem w_X5_foldProject_6 (l : Launch) (D : va_G) (cy : Nat → ClassId) {L : List Nat} {K N : Nat → Nat} {F G : Nat → Nat → Nat} (hZ : ZL L K N F G) {p : Program} {e : Env} {R : Room} {s : State} {m : MethodId} {args : Array Value} {below : List Frame} {meth : Method} {c : Code} {cells slots : Nat} {Q : State → Prop} (C : ZC p s m args meth c cX5_foldProject yX5_foldProject.cls 7 D cy L K N F G) (hRf : 4 ≤ R.frames) (hRl : 97 ≤ R.locals) (hRc : cells ≤ R.cells ∧ slots ≤ R.slots)  (v0 : Nat) (v3 : Int32) (k0 : K v0 = 5) (I : zH) (A : zH) (n : Nat) (x : Int64 × Int32) (o : Int64 × Int32) (h : zIt (fun x => g_X5_foldProject_6 F G v0 v3 x.1 x.2 I A) n x = some o)
    (hx : ZW p l e R s m args below meth c 7 D cy L K N F G cells slots Q I A 33 [(0, .ref v0), (3, .int v3), (4, .long o.1), (6, .int o.2)] []) : ZW p l e R s m args below meth c 7 D cy L K N F G cells slots Q I A 6 [(0, .ref v0), (3, .int v3), (4, .long x.1), (6, .int x.2)] [] := by
  induction n generalizing x with
  | zero => cases h
  | succ n ih =>
    unfold zIt at h
    cases hb : g_X5_foldProject_6 F G v0 v3 x.1 x.2 I A with
    | none => rw [hb] at h; cases h
    | some q =>
      rw [hb] at h
      refine wb_X5_foldProject_6 l D cy hZ C hRf hRl hRc v0 v3 k0 I A x.1 x.2 q hb (fun y hy => ?_) (fun y hy => ?_)
      · subst hy; exact ih y h
      · subst hy; cases h; exact hx
set_option maxHeartbeats 4000000 in
set_option maxRecDepth 100000 in
theorem wb_X5_foldProject_48 (l : Launch) (D : va_G) (cy : Nat → ClassId) {L : List Nat} {K N : Nat → Nat} {F G : Nat → Nat → Nat} (hZ : ZL L K N F G) {p : Program} {e : Env} {R : Room} {s : State} {m : MethodId} {args : Array Value} {below : List Frame} {meth : Method} {c : Code} {cells slots : Nat} {Q : State → Prop} (C : ZC p s m args meth c cX5_foldProject yX5_foldProject.cls 7 D cy L K N F G) (hRf : 5 ≤ R.frames) (hRl : 119 ≤ R.locals) (hRc : cells ≤ R.cells ∧ slots ≤ R.slots)  (v0 : Nat) (v3 : Int32) (k0 : K v0 = 5) (I : zH) (A : zH) (v4 : Int64) (v6 : Int32) (o : (Int64 × Int32) ⊕ (Int64 × Int32)) (h : g_X5_foldProject_48 F G v0 v3 v4 v6 I A = some o)
    (hg : ∀ y : Int64 × Int32, o = .inl y → ZW p l e R s m args below meth c 7 D cy L K N F G cells slots Q I A 48 [(0, .ref v0), (3, .int v3), (4, .long y.1), (6, .int y.2)] [])
    (hx : ∀ y : Int64 × Int32, o = .inr y → ZW p l e R s m args below meth c 7 D cy L K N F G cells slots Q I A 86 [(0, .ref v0), (3, .int v3), (4, .long y.1), (6, .int y.2)] []) : ZW p l e R s m args below meth c 7 D cy L K N F G cells slots Q I A 48 [(0, .ref v0), (3, .int v3), (4, .long v4), (6, .int v6)] [] := by
  unfold g_X5_foldProject_48 at h
  refine zr_iload C 3 rfl dX5_foldProject_48 ?_
  refine zr_bipush (v := 10) C (by decide) dX5_foldProject_50 ?_
  refine zr_icmp_ge (tgt := 86) C (by decide) dX5_foldProject_52 (fun hc1 => ?_) (fun hc1 => ?_)
  · have h := zif_t hc1 h
    obtain rfl := zso h
    refine zr_lv (lv' := [(0, .ref v0), (3, .int v3), (4, .long v4), (6, .int v6)]) C [0, 1, 2, 3] rfl ?_
    exact hx _ rfl
  · have h := zif_f hc1 h
    refine zr_aload_n C 0 rfl rfl dX5_foldProject_55 ?_
    refine zr_get (ci := 5) (k := 5) (v := .ref (F v0 5)) C k0 (by decide) rfl zinX5 (by decide) wd_163 rfl dX5_foldProject_56 ?_
    refine zr_iload_n C 1 rfl rfl dX5_foldProject_59 ?_
    obtain ⟨hc2, h⟩ := zck_e h
    refine zr_ald9 C (zt55 hZ k0).1 (zt55 hZ k0).2 hc2 dX5_foldProject_60 ?_
    refine zr_iload C 3 rfl dX5_foldProject_61 ?_
    obtain ⟨r3, h4, h⟩ := zb_e h
    refine zr_callVi (n := 1) (As := [.int v6]) C (c_X3_hasNode l D cy hZ (G (F v0 5) v3.toNatClampNeg) v6 (zt9 hZ (zt55 hZ k0).1 (z_ix (zt55 hZ k0).2 hc2)) I A h4) wd_473 wd_474 wd_475 wd_6 wd_476 (by decide +kernel) ⟨(Nat.le_trans (Nat.le_of_ble_eq_true rfl) hRf), (Nat.le_trans (Nat.le_of_ble_eq_true rfl) hRl)⟩ rfl rfl hRc (zt9 hZ (zt55 hZ k0).1 (z_ix (zt55 hZ k0).2 hc2)) (by decide) rfl rfl rfl (Nat.le_of_ble_eq_true rfl) dX5_foldProject_63 ?_
    refine zr_if_eq (tgt := 80) C (by decide) dX5_foldProject_66 (fun hc6 => ?_) (fun hc6 => ?_)
    · have h := zif_t hc6 h
      refine zr_iinc (v := v6 + 1) (lv' := [(6, .int (v6 + 1)), (0, .ref v0), (3, .int v3), (4, .long v4)]) C 3 rfl rfl (by decide) rfl dX5_foldProject_80 ?_
      refine zr_goto (tgt := 48) C (by decide) dX5_foldProject_83 ?_
      obtain rfl := zso h
      refine zr_lv (lv' := [(0, .ref v0), (3, .int v3), (4, .long v4), (6, .int (v6 + 1))]) C [1, 2, 3, 0] rfl ?_
      exact hg _ rfl
    · have h := zif_f hc6 h
      refine zr_aload_n C 0 rfl rfl dX5_foldProject_69 ?_
      refine zr_lload C 2 rfl dX5_foldProject_70 ?_
      refine zr_iload_n C 1 rfl rfl dX5_foldProject_72 ?_
      refine zr_iload C 3 rfl dX5_foldProject_73 ?_
      obtain ⟨r7, h8, h⟩ := zb_e h
      refine zr_callVl (n := 3) (As := [.long v4, .int v3, .int v6]) C (c_X5_foldNode l D cy hZ v0 v4 v3 v6 k0 I A h8) wd_624 wd_626 wp_26 wd_1 wd_627 (by decide +kernel) ⟨(Nat.le_trans (Nat.le_of_ble_eq_true rfl) hRf), (Nat.le_trans (Nat.le_of_ble_eq_true rfl) hRl)⟩ rfl rfl hRc k0 (by decide) rfl rfl rfl (Nat.le_of_ble_eq_true rfl) dX5_foldProject_75 ?_
      refine zr_lstore (lv' := [(4, .long r7), (0, .ref v0), (3, .int v3), (6, .int v6)]) C (by decide) rfl dX5_foldProject_78 ?_
      refine zr_iinc (v := v6 + 1) (lv' := [(6, .int (v6 + 1)), (4, .long r7), (0, .ref v0), (3, .int v3)]) C 3 rfl rfl (by decide) rfl dX5_foldProject_80 ?_
      refine zr_goto (tgt := 48) C (by decide) dX5_foldProject_83 ?_
      obtain rfl := zso h
      refine zr_lv (lv' := [(0, .ref v0), (3, .int v3), (4, .long r7), (6, .int (v6 + 1))]) C [2, 3, 1, 0] rfl ?_
      exact hg _ rfl
set_option maxHeartbeats 4000000 in
set_option maxRecDepth 100000 in
theorem w_X5_foldProject_48 (l : Launch) (D : va_G) (cy : Nat → ClassId) {L : List Nat} {K N : Nat → Nat} {F G : Nat → Nat → Nat} (hZ : ZL L K N F G) {p : Program} {e : Env} {R : Room} {s : State} {m : MethodId} {args : Array Value} {below : List Frame} {meth : Method} {c : Code} {cells slots : Nat} {Q : State → Prop} (C : ZC p s m args meth c cX5_foldProject yX5_foldProject.cls 7 D cy L K N F G) (hRf : 5 ≤ R.frames) (hRl : 119 ≤ R.locals) (hRc : cells ≤ R.cells ∧ slots ≤ R.slots)  (v0 : Nat) (v3 : Int32) (k0 : K v0 = 5) (I : zH) (A : zH) (n : Nat) (x : Int64 × Int32) (o : Int64 × Int32) (h : zIt (fun x => g_X5_foldProject_48 F G v0 v3 x.1 x.2 I A) n x = some o)
    (hx : ZW p l e R s m args below meth c 7 D cy L K N F G cells slots Q I A 86 [(0, .ref v0), (3, .int v3), (4, .long o.1), (6, .int o.2)] []) : ZW p l e R s m args below meth c 7 D cy L K N F G cells slots Q I A 48 [(0, .ref v0), (3, .int v3), (4, .long x.1), (6, .int x.2)] [] := by
  induction n generalizing x with
  | zero => cases h
  | succ n ih =>
    unfold zIt at h
    cases hb : g_X5_foldProject_48 F G v0 v3 x.1 x.2 I A with
    | none => rw [hb] at h; cases h
    | some q =>
      rw [hb] at h
      refine wb_X5_foldProject_48 l D cy hZ C hRf hRl hRc v0 v3 k0 I A x.1 x.2 q hb (fun y hy => ?_) (fun y hy => ?_)
      · subst hy; exact ih y h
      · subst hy; cases h; exact hx
set_option maxHeartbeats 4000000 in
set_option maxRecDepth 100000 in
theorem c_X5_foldProject (l : Launch) (D : va_G) (cy : Nat → ClassId) {L : List Nat} {K N : Nat → Nat} {F G : Nat → Nat → Nat} (hZ : ZL L K N F G) (h0 : Nat) (p0 : Int64) (p1 : Int32) (k_h0 : K h0 = 5) (I A : zH) {r : Int64} {B' : zH} (h : f_X5_foldProject F G h0 p0 p1 I A = some (r, B')) : ZMl l yX5_foldProject cX5_foldProject 7 (some .long) { frames := 5, cells := 0, slots := 0, locals := 119 } D cy L K N F G [.ref h0, .long p0, .int p1] I A r I B' := by
  refine ZMl.of (nL := 7) hZ rfl rfl (by decide) (Nat.le_of_ble_eq_true rfl) (fun p e s m args below meth c C hr => ?_)
  unfold f_X5_foldProject at h
  refine zr_lv (lv' := [(0, .ref h0), (1, .long p0), (3, .int p1)]) C [0, 1, 2] rfl ?_
  refine zr_lload_n C 1 rfl rfl dX5_foldProject_0 ?_
  refine zr_lstore (lv' := [(4, .long p0), (0, .ref h0), (1, .long p0), (3, .int p1)]) C (by decide) rfl dX5_foldProject_1 ?_
  refine zr_iconst (v := 0) C (by decide) dX5_foldProject_3 ?_
  refine zr_istore (lv' := [(6, .int 0), (4, .long p0), (0, .ref h0), (1, .long p0), (3, .int p1)]) C (by decide) rfl dX5_foldProject_4 ?_
  obtain ⟨j1, i2, h13, h⟩ := zb2_e h
  refine zr_lv (lv' := [(0, .ref h0), (3, .int p1), (4, .long p0), (6, .int 0)]) C [2, 4, 1, 0] rfl ?_
  refine w_X5_foldProject_6 l D cy hZ C (Nat.le_of_ble_eq_true rfl) (Nat.le_of_ble_eq_true rfl) ⟨Nat.le_refl _, Nat.le_refl _⟩ h0 p1 k_h0 I A 2000 (p0, 0) (j1, i2) h13 ?_
  refine zr_lload C 2 rfl dX5_foldProject_33 ?_
  refine zr_aload_n C 0 rfl rfl dX5_foldProject_35 ?_
  refine zr_iload_n C 1 rfl rfl dX5_foldProject_36 ?_
  obtain ⟨r3, A4, h5, h⟩ := zb2_e h
  refine zr_callVi (n := 1) (As := [.int p1]) C (c_X5_remedy l D cy hZ h0 p1 k_h0 I A h5) wd_623 wd_571 wd_572 wd_1 wd_573 (by decide +kernel) ⟨(Nat.le_of_ble_eq_true rfl), (Nat.le_of_ble_eq_true rfl)⟩ rfl rfl ⟨Nat.le_refl _, Nat.le_refl _⟩ k_h0 (by decide) rfl rfl rfl (Nat.le_of_ble_eq_true rfl) dX5_foldProject_37 ?_
  obtain ⟨r7, h8, h⟩ := zb_e h
  refine zr_callSl (n := 2) (As := [.long j1, .int r3]) C (c_X5_fold l D cy hZ j1 r3 I A4 h8) wd_599 wd_600 wd_1 wd_601 (by decide +kernel) ⟨(Nat.le_of_ble_eq_true rfl), (Nat.le_of_ble_eq_true rfl)⟩ rfl rfl ⟨Nat.le_refl _, Nat.le_refl _⟩ rfl rfl (Nat.le_of_ble_eq_true rfl) dX5_foldProject_40 ?_
  refine zr_lstore (lv' := [(4, .long r7), (0, .ref h0), (3, .int p1), (6, .int i2)]) C (by decide) rfl dX5_foldProject_43 ?_
  refine zr_iconst (v := 0) C (by decide) dX5_foldProject_45 ?_
  refine zr_istore (lv' := [(6, .int 0), (4, .long r7), (0, .ref h0), (3, .int p1)]) C (by decide) rfl dX5_foldProject_46 ?_
  obtain ⟨j10, i11, h12, h⟩ := zb2_e h
  refine zr_lv (lv' := [(0, .ref h0), (3, .int p1), (4, .long r7), (6, .int 0)]) C [2, 3, 1, 0] rfl ?_
  refine w_X5_foldProject_48 l D cy hZ C (Nat.le_of_ble_eq_true rfl) (Nat.le_of_ble_eq_true rfl) ⟨Nat.le_refl _, Nat.le_refl _⟩ h0 p1 k_h0 I A4 2000 (r7, 0) (j10, i11) h12 ?_
  refine zr_lload C 2 rfl dX5_foldProject_86 ?_
  cases zso h
  exact zr_lret C hr dX5_foldProject_88

def f_X5_needNearness (F G : Nat → Nat → Nat) (p0 : Int32) (I A : zH) : Option (Unit) :=
  if p0 < 1 then (
    none
  ) else (
    if p0 ≤ 100 then (
      some ()
    ) else (
      none
    )
  )
set_option maxHeartbeats 4000000 in
set_option maxRecDepth 100000 in
theorem c_X5_needNearness (l : Launch) (D : va_G) (cy : Nat → ClassId) {L : List Nat} {K N : Nat → Nat} {F G : Nat → Nat → Nat} (hZ : ZL L K N F G) (p0 : Int32)  (I A : zH) (h : f_X5_needNearness F G p0 I A = some ()) : ZMv l yX5_needNearness cX5_needNearness 1 none { frames := 0, cells := 0, slots := 0, locals := 0 } D cy L K N F G [.int p0] I A I A := by
  refine ZMv.of (nL := 1) hZ rfl rfl (by decide) (Nat.le_of_ble_eq_true rfl) (fun p e s m args below meth c C hr => ?_)
  unfold f_X5_needNearness at h
  refine zr_lv (lv' := [(0, .int p0)]) C [0] rfl ?_
  refine zr_iload_n C 0 rfl rfl dX5_needNearness_0 ?_
  refine zr_iconst (v := 1) C (by decide) dX5_needNearness_1 ?_
  refine zr_icmp_lt (tgt := 11) C (by decide) dX5_needNearness_2 (fun hc1 => ?_) (fun hc1 => ?_)
  · have h := zif_t hc1 h
    exact zno h
  · have h := zif_f hc1 h
    refine zr_iload_n C 0 rfl rfl dX5_needNearness_5 ?_
    refine zr_bipush (v := 100) C (by decide) dX5_needNearness_6 ?_
    refine zr_icmp_le (tgt := 22) C (by decide) dX5_needNearness_8 (fun hc2 => ?_) (fun hc2 => ?_)
    · have h := zif_t hc2 h
      exact zr_vret C hr dX5_needNearness_22
    · have h := zif_f hc2 h
      exact zno h

def g_X5_bind_54 (F G : Nat → Nat → Nat) (v0 : Nat) (v1 : Nat) (v2 : Int32) (v3 : Int32) (v4 : Int32) (v5 : Int32) (v7 : Int32) (v8 : Int32) (I : zH) (A : zH) : Option ((Int32 × Int32) ⊕ (Int32 × Int32)) :=
  if v5 ≤ v8 then (
    some (.inr (v7, v8))
  ) else (
    zck (¬ (v5 < 0 ∨ 16 ≤ v5.toNatClampNeg)) <|
    zck (¬ (v8 < 0 ∨ 16 ≤ v8.toNatClampNeg)) <|
    if (A (G (F v0 2) v5.toNatClampNeg) v8.toNatClampNeg) < v2 then (
      some (.inl (v7, v8 + 1))
    ) else (
      zb (f_X0_licencesOf F G v1 v8 I A) fun r5 =>
      some (.inl (v7 ||| r5, v8 + 1))
    )
  )
def g_X5_bind_3 (F G : Nat → Nat → Nat) (v0 : Nat) (v1 : Nat) (v2 : Int32) (v3 : Int32) (v4 : Int32) (v5 : Int32) (A : zH) (I : zH) : Option ((Int32 × zH) ⊕ (Int32 × zH)) :=
  if (I v0 8) ≤ v5 then (
    some (.inr (v5, A))
  ) else (
    if v5 = v3 then (
      if v4 = (-1) then (
        zb2 (zIt (fun x => g_X5_bind_54 F G v0 v1 v2 v3 v4 v5 x.1 x.2 I A) 2000 (0, 0)) fun i27 i28 =>
        zck (¬ (v5 < 0 ∨ 16 ≤ v5.toNatClampNeg)) <|
        zb (f_X0_put F G v1 v5 (i27 &&& ((I (G (F v0 1) v5.toNatClampNeg) 2) ^^^ (-1))) (F v0 4) I A) fun A30 =>
        some (.inl (v5 + 1, A30))
      ) else (
        zb2 (zIt (fun x => g_X5_bind_54 F G v0 v1 v2 v3 v4 v5 x.1 x.2 I A) 2000 ((1 : Int32) <<< (v4 &&& 31), 0)) fun i20 i21 =>
        zck (¬ (v5 < 0 ∨ 16 ≤ v5.toNatClampNeg)) <|
        zb (f_X0_put F G v1 v5 (i20 &&& ((I (G (F v0 1) v5.toNatClampNeg) 2) ^^^ (-1))) (F v0 4) I A) fun A23 =>
        some (.inl (v5 + 1, A23))
      )
    ) else (
      zck (¬ (v5 < 0 ∨ 16 ≤ v5.toNatClampNeg)) <|
      if (I (G (F v0 1) v5.toNatClampNeg) 1) = (-1) then (
        zb2 (zIt (fun x => g_X5_bind_54 F G v0 v1 v2 v3 v4 v5 x.1 x.2 I A) 2000 (0, 0)) fun i12 i13 =>
        zck (¬ (v5 < 0 ∨ 16 ≤ v5.toNatClampNeg)) <|
        zb (f_X0_put F G v1 v5 (i12 &&& ((I (G (F v0 1) v5.toNatClampNeg) 2) ^^^ (-1))) (F v0 4) I A) fun A15 =>
        some (.inl (v5 + 1, A15))
      ) else (
        zb2 (zIt (fun x => g_X5_bind_54 F G v0 v1 v2 v3 v4 v5 x.1 x.2 I A) 2000 ((1 : Int32) <<< ((I (G (F v0 1) v5.toNatClampNeg) 1) &&& 31), 0)) fun i5 i6 =>
        zck (¬ (v5 < 0 ∨ 16 ≤ v5.toNatClampNeg)) <|
        zb (f_X0_put F G v1 v5 (i5 &&& ((I (G (F v0 1) v5.toNatClampNeg) 2) ^^^ (-1))) (F v0 4) I A) fun A8 =>
        some (.inl (v5 + 1, A8))
      )
    )
  )
def f_X5_bind (F G : Nat → Nat → Nat) (h0 : Nat) (r0 : Nat) (p1 : Int32) (p2 : Int32) (p3 : Int32) (I A : zH) : Option (zH) :=
  zb2 (zIt (fun x => g_X5_bind_3 F G h0 r0 p1 p2 p3 x.1 x.2 I ) 2000 (0, A)) fun i1 A2 =>
  some A2
set_option maxHeartbeats 4000000 in
set_option maxRecDepth 100000 in
theorem wb_X5_bind_54 (l : Launch) (D : va_G) (cy : Nat → ClassId) {L : List Nat} {K N : Nat → Nat} {F G : Nat → Nat → Nat} (hZ : ZL L K N F G) {p : Program} {e : Env} {R : Room} {s : State} {m : MethodId} {args : Array Value} {below : List Frame} {meth : Method} {c : Code} {cells slots : Nat} {Q : State → Prop} (C : ZC p s m args meth c cX5_bind yX5_bind.cls 9 D cy L K N F G) (hRf : 1 ≤ R.frames) (hRl : 21 ≤ R.locals) (hRc : cells ≤ R.cells ∧ slots ≤ R.slots)  (v0 : Nat) (v1 : Nat) (v2 : Int32) (v3 : Int32) (v4 : Int32) (v5 : Int32) (k0 : K v0 = 5) (k1 : K v1 = 0) (I : zH) (A : zH) (v7 : Int32) (v8 : Int32) (o : (Int32 × Int32) ⊕ (Int32 × Int32)) (h : g_X5_bind_54 F G v0 v1 v2 v3 v4 v5 v7 v8 I A = some o)
    (hg : ∀ y : Int32 × Int32, o = .inl y → ZW p l e R s m args below meth c 9 D cy L K N F G cells slots Q I A 54 [(0, .ref v0), (1, .ref v1), (2, .int v2), (3, .int v3), (4, .int v4), (5, .int v5), (7, .int y.1), (8, .int y.2)] [])
    (hx : ∀ y : Int32 × Int32, o = .inr y → ZW p l e R s m args below meth c 9 D cy L K N F G cells slots Q I A 92 [(0, .ref v0), (1, .ref v1), (2, .int v2), (3, .int v3), (4, .int v4), (5, .int v5), (7, .int y.1), (8, .int y.2)] []) : ZW p l e R s m args below meth c 9 D cy L K N F G cells slots Q I A 54 [(0, .ref v0), (1, .ref v1), (2, .int v2), (3, .int v3), (4, .int v4), (5, .int v5), (7, .int v7), (8, .int v8)] [] := by
  unfold g_X5_bind_54 at h
  refine zr_iload C 7 rfl dX5_bind_54 ?_
  refine zr_iload C 5 rfl dX5_bind_56 ?_
  refine zr_icmp_ge (tgt := 92) C (by decide) dX5_bind_58 (fun hc1 => ?_) (fun hc1 => ?_)
  · have h := zif_t hc1 h
    obtain rfl := zso h
    refine zr_lv (lv' := [(0, .ref v0), (1, .ref v1), (2, .int v2), (3, .int v3), (4, .int v4), (5, .int v5), (7, .int v7), (8, .int v8)]) C [0, 1, 2, 3, 4, 5, 6, 7] rfl ?_
    exact hx _ rfl
  · have h := zif_f hc1 h
    refine zr_aload_n C 0 rfl rfl dX5_bind_61 ?_
    refine zr_get (ci := 5) (k := 2) (v := .ref (F v0 2)) C k0 (by decide) rfl zinX5 (by decide) wd_160 rfl dX5_bind_62 ?_
    refine zr_iload C 5 rfl dX5_bind_65 ?_
    obtain ⟨hc2, h⟩ := zck_e h
    refine zr_ald10 C (zt52 hZ k0).1 (zt52 hZ k0).2 hc2 dX5_bind_67 ?_
    refine zr_iload C 7 rfl dX5_bind_68 ?_
    obtain ⟨hc3, h⟩ := zck_e h
    refine zr_iald C (zt10 hZ (zt52 hZ k0).1 (z_ix (zt52 hZ k0).2 hc2)).1 (zt10 hZ (zt52 hZ k0).1 (z_ix (zt52 hZ k0).2 hc2)).2 hc3 dX5_bind_70 ?_
    refine zr_iload_n C 2 rfl rfl dX5_bind_71 ?_
    refine zr_icmp_lt (tgt := 86) C (by decide) dX5_bind_72 (fun hc4 => ?_) (fun hc4 => ?_)
    · have h := zif_t hc4 h
      refine zr_iinc (v := v8 + 1) (lv' := [(8, .int (v8 + 1)), (0, .ref v0), (1, .ref v1), (2, .int v2), (3, .int v3), (4, .int v4), (5, .int v5), (7, .int v7)]) C 7 rfl rfl (by decide) rfl dX5_bind_86 ?_
      refine zr_goto (tgt := 54) C (by decide) dX5_bind_89 ?_
      obtain rfl := zso h
      refine zr_lv (lv' := [(0, .ref v0), (1, .ref v1), (2, .int v2), (3, .int v3), (4, .int v4), (5, .int v5), (7, .int v7), (8, .int (v8 + 1))]) C [1, 2, 3, 4, 5, 6, 7, 0] rfl ?_
      exact hg _ rfl
    · have h := zif_f hc4 h
      refine zr_iload C 6 rfl dX5_bind_75 ?_
      refine zr_aload_n C 1 rfl rfl dX5_bind_77 ?_
      refine zr_iload C 7 rfl dX5_bind_78 ?_
      obtain ⟨r5, h6, h⟩ := zb_e h
      refine zr_callVi (n := 1) (As := [.int v8]) C (c_X0_licencesOf l D cy hZ v1 v8 k1 I A h6) wd_314 wd_315 wd_316 wd_3 wd_317 (by decide +kernel) ⟨(Nat.le_trans (Nat.le_of_ble_eq_true rfl) hRf), (Nat.le_trans (Nat.le_of_ble_eq_true rfl) hRl)⟩ rfl rfl hRc k1 (by decide) rfl rfl rfl (Nat.le_of_ble_eq_true rfl) dX5_bind_80 ?_
      refine zr_ior C dX5_bind_83 ?_
      refine zr_istore (lv' := [(7, .int (v7 ||| r5)), (0, .ref v0), (1, .ref v1), (2, .int v2), (3, .int v3), (4, .int v4), (5, .int v5), (8, .int v8)]) C (by decide) rfl dX5_bind_84 ?_
      refine zr_iinc (v := v8 + 1) (lv' := [(8, .int (v8 + 1)), (7, .int (v7 ||| r5)), (0, .ref v0), (1, .ref v1), (2, .int v2), (3, .int v3), (4, .int v4), (5, .int v5)]) C 7 rfl rfl (by decide) rfl dX5_bind_86 ?_
      refine zr_goto (tgt := 54) C (by decide) dX5_bind_89 ?_
      obtain rfl := zso h
      refine zr_lv (lv' := [(0, .ref v0), (1, .ref v1), (2, .int v2), (3, .int v3), (4, .int v4), (5, .int v5), (7, .int (v7 ||| r5)), (8, .int (v8 + 1))]) C [2, 3, 4, 5, 6, 7, 1, 0] rfl ?_
      exact hg _ rfl
set_option maxHeartbeats 4000000 in
set_option maxRecDepth 100000 in
theorem w_X5_bind_54 (l : Launch) (D : va_G) (cy : Nat → ClassId) {L : List Nat} {K N : Nat → Nat} {F G : Nat → Nat → Nat} (hZ : ZL L K N F G) {p : Program} {e : Env} {R : Room} {s : State} {m : MethodId} {args : Array Value} {below : List Frame} {meth : Method} {c : Code} {cells slots : Nat} {Q : State → Prop} (C : ZC p s m args meth c cX5_bind yX5_bind.cls 9 D cy L K N F G) (hRf : 1 ≤ R.frames) (hRl : 21 ≤ R.locals) (hRc : cells ≤ R.cells ∧ slots ≤ R.slots)  (v0 : Nat) (v1 : Nat) (v2 : Int32) (v3 : Int32) (v4 : Int32) (v5 : Int32) (k0 : K v0 = 5) (k1 : K v1 = 0) (I : zH) (A : zH) (n : Nat) (x : Int32 × Int32) (o : Int32 × Int32) (h : zIt (fun x => g_X5_bind_54 F G v0 v1 v2 v3 v4 v5 x.1 x.2 I A) n x = some o)
    (hx : ZW p l e R s m args below meth c 9 D cy L K N F G cells slots Q I A 92 [(0, .ref v0), (1, .ref v1), (2, .int v2), (3, .int v3), (4, .int v4), (5, .int v5), (7, .int o.1), (8, .int o.2)] []) : ZW p l e R s m args below meth c 9 D cy L K N F G cells slots Q I A 54 [(0, .ref v0), (1, .ref v1), (2, .int v2), (3, .int v3), (4, .int v4), (5, .int v5), (7, .int x.1), (8, .int x.2)] [] := by
  induction n generalizing x with
  | zero => cases h
  | succ n ih =>
    unfold zIt at h
    cases hb : g_X5_bind_54 F G v0 v1 v2 v3 v4 v5 x.1 x.2 I A with
    | none => rw [hb] at h; cases h
    | some q =>
      rw [hb] at h
      refine wb_X5_bind_54 l D cy hZ C hRf hRl hRc v0 v1 v2 v3 v4 v5 k0 k1 I A x.1 x.2 q hb (fun y hy => ?_) (fun y hy => ?_)
      · subst hy; exact ih y h
      · subst hy; cases h; exact hx
set_option maxHeartbeats 4000000 in
set_option maxRecDepth 100000 in
theorem wb_X5_bind_3 (l : Launch) (D : va_G) (cy : Nat → ClassId) {L : List Nat} {K N : Nat → Nat} {F G : Nat → Nat → Nat} (hZ : ZL L K N F G) {p : Program} {e : Env} {R : Room} {s : State} {m : MethodId} {args : Array Value} {below : List Frame} {meth : Method} {c : Code} {cells slots : Nat} {Q : State → Prop} (C : ZC p s m args meth c cX5_bind yX5_bind.cls 9 D cy L K N F G) (hRf : 2 ≤ R.frames) (hRl : 47 ≤ R.locals) (hRc : cells ≤ R.cells ∧ slots ≤ R.slots)  (v0 : Nat) (v1 : Nat) (v2 : Int32) (v3 : Int32) (v4 : Int32) (k0 : K v0 = 5) (k1 : K v1 = 0) (I : zH) (v5 : Int32) (A : zH) (o : (Int32 × zH) ⊕ (Int32 × zH)) (h : g_X5_bind_3 F G v0 v1 v2 v3 v4 v5 A I = some o)
    (hg : ∀ y : Int32 × zH, o = .inl y → ZW p l e R s m args below meth c 9 D cy L K N F G cells slots Q I y.2 3 [(0, .ref v0), (1, .ref v1), (2, .int v2), (3, .int v3), (4, .int v4), (5, .int y.1)] [])
    (hx : ∀ y : Int32 × zH, o = .inr y → ZW p l e R s m args below meth c 9 D cy L K N F G cells slots Q I y.2 123 [(0, .ref v0), (1, .ref v1), (2, .int v2), (3, .int v3), (4, .int v4), (5, .int y.1)] []) : ZW p l e R s m args below meth c 9 D cy L K N F G cells slots Q I A 3 [(0, .ref v0), (1, .ref v1), (2, .int v2), (3, .int v3), (4, .int v4), (5, .int v5)] [] := by
  unfold g_X5_bind_3 at h
  refine zr_iload C 5 rfl dX5_bind_3 ?_
  refine zr_aload_n C 0 rfl rfl dX5_bind_5 ?_
  refine zr_get (ci := 5) (k := 8) (v := .int (I v0 8)) C k0 (by decide) rfl zinX5 (by decide) wd_166 rfl dX5_bind_6 ?_
  refine zr_icmp_ge (tgt := 123) C (by decide) dX5_bind_9 (fun hc1 => ?_) (fun hc1 => ?_)
  · have h := zif_t hc1 h
    obtain rfl := zso h
    refine zr_lv (lv' := [(0, .ref v0), (1, .ref v1), (2, .int v2), (3, .int v3), (4, .int v4), (5, .int v5)]) C [0, 1, 2, 3, 4, 5] rfl ?_
    exact hx _ rfl
  · have h := zif_f hc1 h
    refine zr_iload C 5 rfl dX5_bind_12 ?_
    refine zr_iload_n C 3 rfl rfl dX5_bind_14 ?_
    refine zr_icmp_ne (tgt := 23) C (by decide) dX5_bind_15 (fun hc2 => ?_) (fun hc2 => ?_)
    · have h := zif_f hc2 h
      refine zr_aload_n C 0 rfl rfl dX5_bind_23 ?_
      refine zr_get (ci := 5) (k := 1) (v := .ref (F v0 1)) C k0 (by decide) rfl zinX5 (by decide) wd_159 rfl dX5_bind_24 ?_
      refine zr_iload C 5 rfl dX5_bind_27 ?_
      obtain ⟨hc3, h⟩ := zck_e h
      refine zr_ald8 C (zt51 hZ k0).1 (zt51 hZ k0).2 hc3 dX5_bind_29 ?_
      refine zr_get (ci := 2) (k := 1) (v := .int (I (G (F v0 1) v5.toNatClampNeg) 1)) C (zt8 hZ (zt51 hZ k0).1 (z_ix (zt51 hZ k0).2 hc3)) (by decide) rfl zinX2 (by decide) wd_82 rfl dX5_bind_30 ?_
      refine zr_istore (lv' := [(6, .int (I (G (F v0 1) v5.toNatClampNeg) 1)), (0, .ref v0), (1, .ref v1), (2, .int v2), (3, .int v3), (4, .int v4), (5, .int v5)]) C (by decide) rfl dX5_bind_33 ?_
      refine zr_iload C 0 rfl dX5_bind_35 ?_
      refine zr_iconst (v := (-1)) C (by decide) dX5_bind_37 ?_
      refine zr_icmp_ne (tgt := 45) C (by decide) dX5_bind_38 (fun hc4 => ?_) (fun hc4 => ?_)
      · have h := zif_f hc4 h
        refine zr_iconst (v := 1) C (by decide) dX5_bind_45 ?_
        refine zr_iload C 0 rfl dX5_bind_46 ?_
        refine zr_ishl C dX5_bind_48 ?_
        refine zr_istore (lv' := [(7, .int ((1 : Int32) <<< ((I (G (F v0 1) v5.toNatClampNeg) 1) &&& 31))), (6, .int (I (G (F v0 1) v5.toNatClampNeg) 1)), (0, .ref v0), (1, .ref v1), (2, .int v2), (3, .int v3), (4, .int v4), (5, .int v5)]) C (by decide) rfl dX5_bind_49 ?_
        refine zr_iconst (v := 0) C (by decide) dX5_bind_51 ?_
        refine zr_istore (lv' := [(8, .int 0), (7, .int ((1 : Int32) <<< ((I (G (F v0 1) v5.toNatClampNeg) 1) &&& 31))), (6, .int (I (G (F v0 1) v5.toNatClampNeg) 1)), (0, .ref v0), (1, .ref v1), (2, .int v2), (3, .int v3), (4, .int v4), (5, .int v5)]) C (by decide) rfl dX5_bind_52 ?_
        obtain ⟨i5, i6, h11, h⟩ := zb2_e h
        refine zr_lv (lv' := [(0, .ref v0), (1, .ref v1), (2, .int v2), (3, .int v3), (4, .int v4), (5, .int v5), (7, .int ((1 : Int32) <<< ((I (G (F v0 1) v5.toNatClampNeg) 1) &&& 31))), (8, .int 0)]) C [3, 4, 5, 6, 7, 8, 1, 0] rfl ?_
        refine w_X5_bind_54 l D cy hZ C (Nat.le_trans (Nat.le_of_ble_eq_true rfl) hRf) (Nat.le_trans (Nat.le_of_ble_eq_true rfl) hRl) hRc v0 v1 v2 v3 v4 v5 k0 k1 I A 2000 ((1 : Int32) <<< ((I (G (F v0 1) v5.toNatClampNeg) 1) &&& 31), 0) (i5, i6) h11 ?_
        refine zr_aload_n C 1 rfl rfl dX5_bind_92 ?_
        refine zr_iload C 5 rfl dX5_bind_93 ?_
        refine zr_iload C 6 rfl dX5_bind_95 ?_
        refine zr_aload_n C 0 rfl rfl dX5_bind_97 ?_
        refine zr_get (ci := 5) (k := 1) (v := .ref (F v0 1)) C k0 (by decide) rfl zinX5 (by decide) wd_159 rfl dX5_bind_98 ?_
        refine zr_iload C 5 rfl dX5_bind_101 ?_
        obtain ⟨hc7, h⟩ := zck_e h
        refine zr_ald8 C (zt51 hZ k0).1 (zt51 hZ k0).2 hc7 dX5_bind_103 ?_
        refine zr_get (ci := 2) (k := 2) (v := .int (I (G (F v0 1) v5.toNatClampNeg) 2)) C (zt8 hZ (zt51 hZ k0).1 (z_ix (zt51 hZ k0).2 hc7)) (by decide) rfl zinX2 (by decide) wd_84 rfl dX5_bind_104 ?_
        refine zr_iconst (v := (-1)) C (by decide) dX5_bind_107 ?_
        refine zr_ixor C dX5_bind_108 ?_
        refine zr_iand C dX5_bind_109 ?_
        refine zr_aload_n C 0 rfl rfl dX5_bind_110 ?_
        refine zr_get (ci := 5) (k := 4) (v := .ref (F v0 4)) C k0 (by decide) rfl zinX5 (by decide) wd_162 rfl dX5_bind_111 ?_
        obtain ⟨A8, h9, h⟩ := zb_e h
        refine zr_callVv (n := 3) (As := [.int v5, .int (i5 &&& ((I (G (F v0 1) v5.toNatClampNeg) 2) ^^^ (-1))), .ref (F v0 4)]) C (c_X0_put l D cy hZ v1 v5 (i5 &&& ((I (G (F v0 1) v5.toNatClampNeg) 2) ^^^ (-1))) (F v0 4) k1 (zt54 hZ k0).1 (zt54 hZ k0).2 I A h9) wd_318 wd_319 wd_320 wd_3 wd_321 (by decide +kernel) ⟨(Nat.le_trans (Nat.le_of_ble_eq_true rfl) hRf), (Nat.le_trans (Nat.le_of_ble_eq_true rfl) hRl)⟩ rfl rfl hRc k1 (by decide) rfl rfl rfl (Nat.le_of_ble_eq_true rfl) dX5_bind_114 ?_
        refine zr_iinc (v := v5 + 1) (lv' := [(5, .int (v5 + 1)), (0, .ref v0), (1, .ref v1), (2, .int v2), (3, .int v3), (4, .int v4), (7, .int i5), (8, .int i6)]) C 5 rfl rfl (by decide) rfl dX5_bind_117 ?_
        refine zr_goto (tgt := 3) C (by decide) dX5_bind_120 ?_
        obtain rfl := zso h
        refine zr_lv (lv' := [(0, .ref v0), (1, .ref v1), (2, .int v2), (3, .int v3), (4, .int v4), (5, .int (v5 + 1))]) C [1, 2, 3, 4, 5, 0] rfl ?_
        exact hg _ rfl
      · have h := zif_t hc4 h
        refine zr_iconst (v := 0) C (by decide) dX5_bind_41 ?_
        refine zr_goto (tgt := 49) C (by decide) dX5_bind_42 ?_
        refine zr_istore (lv' := [(7, .int 0), (6, .int (I (G (F v0 1) v5.toNatClampNeg) 1)), (0, .ref v0), (1, .ref v1), (2, .int v2), (3, .int v3), (4, .int v4), (5, .int v5)]) C (by decide) rfl dX5_bind_49 ?_
        refine zr_iconst (v := 0) C (by decide) dX5_bind_51 ?_
        refine zr_istore (lv' := [(8, .int 0), (7, .int 0), (6, .int (I (G (F v0 1) v5.toNatClampNeg) 1)), (0, .ref v0), (1, .ref v1), (2, .int v2), (3, .int v3), (4, .int v4), (5, .int v5)]) C (by decide) rfl dX5_bind_52 ?_
        obtain ⟨i12, i13, h18, h⟩ := zb2_e h
        refine zr_lv (lv' := [(0, .ref v0), (1, .ref v1), (2, .int v2), (3, .int v3), (4, .int v4), (5, .int v5), (7, .int 0), (8, .int 0)]) C [3, 4, 5, 6, 7, 8, 1, 0] rfl ?_
        refine w_X5_bind_54 l D cy hZ C (Nat.le_trans (Nat.le_of_ble_eq_true rfl) hRf) (Nat.le_trans (Nat.le_of_ble_eq_true rfl) hRl) hRc v0 v1 v2 v3 v4 v5 k0 k1 I A 2000 (0, 0) (i12, i13) h18 ?_
        refine zr_aload_n C 1 rfl rfl dX5_bind_92 ?_
        refine zr_iload C 5 rfl dX5_bind_93 ?_
        refine zr_iload C 6 rfl dX5_bind_95 ?_
        refine zr_aload_n C 0 rfl rfl dX5_bind_97 ?_
        refine zr_get (ci := 5) (k := 1) (v := .ref (F v0 1)) C k0 (by decide) rfl zinX5 (by decide) wd_159 rfl dX5_bind_98 ?_
        refine zr_iload C 5 rfl dX5_bind_101 ?_
        obtain ⟨hc14, h⟩ := zck_e h
        refine zr_ald8 C (zt51 hZ k0).1 (zt51 hZ k0).2 hc14 dX5_bind_103 ?_
        refine zr_get (ci := 2) (k := 2) (v := .int (I (G (F v0 1) v5.toNatClampNeg) 2)) C (zt8 hZ (zt51 hZ k0).1 (z_ix (zt51 hZ k0).2 hc14)) (by decide) rfl zinX2 (by decide) wd_84 rfl dX5_bind_104 ?_
        refine zr_iconst (v := (-1)) C (by decide) dX5_bind_107 ?_
        refine zr_ixor C dX5_bind_108 ?_
        refine zr_iand C dX5_bind_109 ?_
        refine zr_aload_n C 0 rfl rfl dX5_bind_110 ?_
        refine zr_get (ci := 5) (k := 4) (v := .ref (F v0 4)) C k0 (by decide) rfl zinX5 (by decide) wd_162 rfl dX5_bind_111 ?_
        obtain ⟨A15, h16, h⟩ := zb_e h
        refine zr_callVv (n := 3) (As := [.int v5, .int (i12 &&& ((I (G (F v0 1) v5.toNatClampNeg) 2) ^^^ (-1))), .ref (F v0 4)]) C (c_X0_put l D cy hZ v1 v5 (i12 &&& ((I (G (F v0 1) v5.toNatClampNeg) 2) ^^^ (-1))) (F v0 4) k1 (zt54 hZ k0).1 (zt54 hZ k0).2 I A h16) wd_318 wd_319 wd_320 wd_3 wd_321 (by decide +kernel) ⟨(Nat.le_trans (Nat.le_of_ble_eq_true rfl) hRf), (Nat.le_trans (Nat.le_of_ble_eq_true rfl) hRl)⟩ rfl rfl hRc k1 (by decide) rfl rfl rfl (Nat.le_of_ble_eq_true rfl) dX5_bind_114 ?_
        refine zr_iinc (v := v5 + 1) (lv' := [(5, .int (v5 + 1)), (0, .ref v0), (1, .ref v1), (2, .int v2), (3, .int v3), (4, .int v4), (7, .int i12), (8, .int i13)]) C 5 rfl rfl (by decide) rfl dX5_bind_117 ?_
        refine zr_goto (tgt := 3) C (by decide) dX5_bind_120 ?_
        obtain rfl := zso h
        refine zr_lv (lv' := [(0, .ref v0), (1, .ref v1), (2, .int v2), (3, .int v3), (4, .int v4), (5, .int (v5 + 1))]) C [1, 2, 3, 4, 5, 0] rfl ?_
        exact hg _ rfl
    · have h := zif_t hc2 h
      refine zr_iload C 4 rfl dX5_bind_18 ?_
      refine zr_goto (tgt := 33) C (by decide) dX5_bind_20 ?_
      refine zr_istore (lv' := [(6, .int v4), (0, .ref v0), (1, .ref v1), (2, .int v2), (3, .int v3), (4, .int v4), (5, .int v5)]) C (by decide) rfl dX5_bind_33 ?_
      refine zr_iload C 0 rfl dX5_bind_35 ?_
      refine zr_iconst (v := (-1)) C (by decide) dX5_bind_37 ?_
      refine zr_icmp_ne (tgt := 45) C (by decide) dX5_bind_38 (fun hc19 => ?_) (fun hc19 => ?_)
      · have h := zif_f hc19 h
        refine zr_iconst (v := 1) C (by decide) dX5_bind_45 ?_
        refine zr_iload C 0 rfl dX5_bind_46 ?_
        refine zr_ishl C dX5_bind_48 ?_
        refine zr_istore (lv' := [(7, .int ((1 : Int32) <<< (v4 &&& 31))), (6, .int v4), (0, .ref v0), (1, .ref v1), (2, .int v2), (3, .int v3), (4, .int v4), (5, .int v5)]) C (by decide) rfl dX5_bind_49 ?_
        refine zr_iconst (v := 0) C (by decide) dX5_bind_51 ?_
        refine zr_istore (lv' := [(8, .int 0), (7, .int ((1 : Int32) <<< (v4 &&& 31))), (6, .int v4), (0, .ref v0), (1, .ref v1), (2, .int v2), (3, .int v3), (4, .int v4), (5, .int v5)]) C (by decide) rfl dX5_bind_52 ?_
        obtain ⟨i20, i21, h26, h⟩ := zb2_e h
        refine zr_lv (lv' := [(0, .ref v0), (1, .ref v1), (2, .int v2), (3, .int v3), (4, .int v4), (5, .int v5), (7, .int ((1 : Int32) <<< (v4 &&& 31))), (8, .int 0)]) C [3, 4, 5, 6, 7, 8, 1, 0] rfl ?_
        refine w_X5_bind_54 l D cy hZ C (Nat.le_trans (Nat.le_of_ble_eq_true rfl) hRf) (Nat.le_trans (Nat.le_of_ble_eq_true rfl) hRl) hRc v0 v1 v2 v3 v4 v5 k0 k1 I A 2000 ((1 : Int32) <<< (v4 &&& 31), 0) (i20, i21) h26 ?_
        refine zr_aload_n C 1 rfl rfl dX5_bind_92 ?_
        refine zr_iload C 5 rfl dX5_bind_93 ?_
        refine zr_iload C 6 rfl dX5_bind_95 ?_
        refine zr_aload_n C 0 rfl rfl dX5_bind_97 ?_
        refine zr_get (ci := 5) (k := 1) (v := .ref (F v0 1)) C k0 (by decide) rfl zinX5 (by decide) wd_159 rfl dX5_bind_98 ?_
        refine zr_iload C 5 rfl dX5_bind_101 ?_
        obtain ⟨hc22, h⟩ := zck_e h
        refine zr_ald8 C (zt51 hZ k0).1 (zt51 hZ k0).2 hc22 dX5_bind_103 ?_
        refine zr_get (ci := 2) (k := 2) (v := .int (I (G (F v0 1) v5.toNatClampNeg) 2)) C (zt8 hZ (zt51 hZ k0).1 (z_ix (zt51 hZ k0).2 hc22)) (by decide) rfl zinX2 (by decide) wd_84 rfl dX5_bind_104 ?_
        refine zr_iconst (v := (-1)) C (by decide) dX5_bind_107 ?_
        refine zr_ixor C dX5_bind_108 ?_
        refine zr_iand C dX5_bind_109 ?_
        refine zr_aload_n C 0 rfl rfl dX5_bind_110 ?_
        refine zr_get (ci := 5) (k := 4) (v := .ref (F v0 4)) C k0 (by decide) rfl zinX5 (by decide) wd_162 rfl dX5_bind_111 ?_
        obtain ⟨A23, h24, h⟩ := zb_e h
        refine zr_callVv (n := 3) (As := [.int v5, .int (i20 &&& ((I (G (F v0 1) v5.toNatClampNeg) 2) ^^^ (-1))), .ref (F v0 4)]) C (c_X0_put l D cy hZ v1 v5 (i20 &&& ((I (G (F v0 1) v5.toNatClampNeg) 2) ^^^ (-1))) (F v0 4) k1 (zt54 hZ k0).1 (zt54 hZ k0).2 I A h24) wd_318 wd_319 wd_320 wd_3 wd_321 (by decide +kernel) ⟨(Nat.le_trans (Nat.le_of_ble_eq_true rfl) hRf), (Nat.le_trans (Nat.le_of_ble_eq_true rfl) hRl)⟩ rfl rfl hRc k1 (by decide) rfl rfl rfl (Nat.le_of_ble_eq_true rfl) dX5_bind_114 ?_
        refine zr_iinc (v := v5 + 1) (lv' := [(5, .int (v5 + 1)), (0, .ref v0), (1, .ref v1), (2, .int v2), (3, .int v3), (4, .int v4), (7, .int i20), (8, .int i21)]) C 5 rfl rfl (by decide) rfl dX5_bind_117 ?_
        refine zr_goto (tgt := 3) C (by decide) dX5_bind_120 ?_
        obtain rfl := zso h
        refine zr_lv (lv' := [(0, .ref v0), (1, .ref v1), (2, .int v2), (3, .int v3), (4, .int v4), (5, .int (v5 + 1))]) C [1, 2, 3, 4, 5, 0] rfl ?_
        exact hg _ rfl
      · have h := zif_t hc19 h
        refine zr_iconst (v := 0) C (by decide) dX5_bind_41 ?_
        refine zr_goto (tgt := 49) C (by decide) dX5_bind_42 ?_
        refine zr_istore (lv' := [(7, .int 0), (6, .int v4), (0, .ref v0), (1, .ref v1), (2, .int v2), (3, .int v3), (4, .int v4), (5, .int v5)]) C (by decide) rfl dX5_bind_49 ?_
        refine zr_iconst (v := 0) C (by decide) dX5_bind_51 ?_
        refine zr_istore (lv' := [(8, .int 0), (7, .int 0), (6, .int v4), (0, .ref v0), (1, .ref v1), (2, .int v2), (3, .int v3), (4, .int v4), (5, .int v5)]) C (by decide) rfl dX5_bind_52 ?_
        obtain ⟨i27, i28, h33, h⟩ := zb2_e h
        refine zr_lv (lv' := [(0, .ref v0), (1, .ref v1), (2, .int v2), (3, .int v3), (4, .int v4), (5, .int v5), (7, .int 0), (8, .int 0)]) C [3, 4, 5, 6, 7, 8, 1, 0] rfl ?_
        refine w_X5_bind_54 l D cy hZ C (Nat.le_trans (Nat.le_of_ble_eq_true rfl) hRf) (Nat.le_trans (Nat.le_of_ble_eq_true rfl) hRl) hRc v0 v1 v2 v3 v4 v5 k0 k1 I A 2000 (0, 0) (i27, i28) h33 ?_
        refine zr_aload_n C 1 rfl rfl dX5_bind_92 ?_
        refine zr_iload C 5 rfl dX5_bind_93 ?_
        refine zr_iload C 6 rfl dX5_bind_95 ?_
        refine zr_aload_n C 0 rfl rfl dX5_bind_97 ?_
        refine zr_get (ci := 5) (k := 1) (v := .ref (F v0 1)) C k0 (by decide) rfl zinX5 (by decide) wd_159 rfl dX5_bind_98 ?_
        refine zr_iload C 5 rfl dX5_bind_101 ?_
        obtain ⟨hc29, h⟩ := zck_e h
        refine zr_ald8 C (zt51 hZ k0).1 (zt51 hZ k0).2 hc29 dX5_bind_103 ?_
        refine zr_get (ci := 2) (k := 2) (v := .int (I (G (F v0 1) v5.toNatClampNeg) 2)) C (zt8 hZ (zt51 hZ k0).1 (z_ix (zt51 hZ k0).2 hc29)) (by decide) rfl zinX2 (by decide) wd_84 rfl dX5_bind_104 ?_
        refine zr_iconst (v := (-1)) C (by decide) dX5_bind_107 ?_
        refine zr_ixor C dX5_bind_108 ?_
        refine zr_iand C dX5_bind_109 ?_
        refine zr_aload_n C 0 rfl rfl dX5_bind_110 ?_
        refine zr_get (ci := 5) (k := 4) (v := .ref (F v0 4)) C k0 (by decide) rfl zinX5 (by decide) wd_162 rfl dX5_bind_111 ?_
        obtain ⟨A30, h31, h⟩ := zb_e h
        refine zr_callVv (n := 3) (As := [.int v5, .int (i27 &&& ((I (G (F v0 1) v5.toNatClampNeg) 2) ^^^ (-1))), .ref (F v0 4)]) C (c_X0_put l D cy hZ v1 v5 (i27 &&& ((I (G (F v0 1) v5.toNatClampNeg) 2) ^^^ (-1))) (F v0 4) k1 (zt54 hZ k0).1 (zt54 hZ k0).2 I A h31) wd_318 wd_319 wd_320 wd_3 wd_321 (by decide +kernel) ⟨(Nat.le_trans (Nat.le_of_ble_eq_true rfl) hRf), (Nat.le_trans (Nat.le_of_ble_eq_true rfl) hRl)⟩ rfl rfl hRc k1 (by decide) rfl rfl rfl (Nat.le_of_ble_eq_true rfl) dX5_bind_114 ?_
        refine zr_iinc (v := v5 + 1) (lv' := [(5, .int (v5 + 1)), (0, .ref v0), (1, .ref v1), (2, .int v2), (3, .int v3), (4, .int v4), (7, .int i27), (8, .int i28)]) C 5 rfl rfl (by decide) rfl dX5_bind_117 ?_
        refine zr_goto (tgt := 3) C (by decide) dX5_bind_120 ?_
        obtain rfl := zso h
        refine zr_lv (lv' := [(0, .ref v0), (1, .ref v1), (2, .int v2), (3, .int v3), (4, .int v4), (5, .int (v5 + 1))]) C [1, 2, 3, 4, 5, 0] rfl ?_
        exact hg _ rfl
set_option maxHeartbeats 4000000 in
set_option maxRecDepth 100000 in
theorem w_X5_bind_3 (l : Launch) (D : va_G) (cy : Nat → ClassId) {L : List Nat} {K N : Nat → Nat} {F G : Nat → Nat → Nat} (hZ : ZL L K N F G) {p : Program} {e : Env} {R : Room} {s : State} {m : MethodId} {args : Array Value} {below : List Frame} {meth : Method} {c : Code} {cells slots : Nat} {Q : State → Prop} (C : ZC p s m args meth c cX5_bind yX5_bind.cls 9 D cy L K N F G) (hRf : 2 ≤ R.frames) (hRl : 47 ≤ R.locals) (hRc : cells ≤ R.cells ∧ slots ≤ R.slots)  (v0 : Nat) (v1 : Nat) (v2 : Int32) (v3 : Int32) (v4 : Int32) (k0 : K v0 = 5) (k1 : K v1 = 0) (I : zH) (n : Nat) (x : Int32 × zH) (o : Int32 × zH) (h : zIt (fun x => g_X5_bind_3 F G v0 v1 v2 v3 v4 x.1 x.2 I) n x = some o)
    (hx : ZW p l e R s m args below meth c 9 D cy L K N F G cells slots Q I o.2 123 [(0, .ref v0), (1, .ref v1), (2, .int v2), (3, .int v3), (4, .int v4), (5, .int o.1)] []) : ZW p l e R s m args below meth c 9 D cy L K N F G cells slots Q I x.2 3 [(0, .ref v0), (1, .ref v1), (2, .int v2), (3, .int v3), (4, .int v4), (5, .int x.1)] [] := by
  induction n generalizing x with
  | zero => cases h
  | succ n ih =>
    unfold zIt at h
    cases hb : g_X5_bind_3 F G v0 v1 v2 v3 v4 x.1 x.2 I with
    | none => rw [hb] at h; cases h
    | some q =>
      rw [hb] at h
      refine wb_X5_bind_3 l D cy hZ C hRf hRl hRc v0 v1 v2 v3 v4 k0 k1 I x.1 x.2 q hb (fun y hy => ?_) (fun y hy => ?_)
      · subst hy; exact ih y h
      · subst hy; cases h; exact hx
set_option maxHeartbeats 4000000 in
set_option maxRecDepth 100000 in
theorem c_X5_bind (l : Launch) (D : va_G) (cy : Nat → ClassId) {L : List Nat} {K N : Nat → Nat} {F G : Nat → Nat → Nat} (hZ : ZL L K N F G) (h0 : Nat) (r0 : Nat) (p1 : Int32) (p2 : Int32) (p3 : Int32) (k_h0 : K h0 = 5) (k_r0 : K r0 = 0) (I A : zH) {B' : zH} (h : f_X5_bind F G h0 r0 p1 p2 p3 I A = some B') : ZMv l yX5_bind cX5_bind 9 none { frames := 2, cells := 0, slots := 0, locals := 47 } D cy L K N F G [.ref h0, .ref r0, .int p1, .int p2, .int p3] I A I B' := by
  refine ZMv.of (nL := 9) hZ rfl rfl (by decide) (Nat.le_of_ble_eq_true rfl) (fun p e s m args below meth c C hr => ?_)
  unfold f_X5_bind at h
  refine zr_lv (lv' := [(0, .ref h0), (1, .ref r0), (2, .int p1), (3, .int p2), (4, .int p3)]) C [0, 1, 2, 3, 4] rfl ?_
  refine zr_iconst (v := 0) C (by decide) dX5_bind_0 ?_
  refine zr_istore (lv' := [(5, .int 0), (0, .ref h0), (1, .ref r0), (2, .int p1), (3, .int p2), (4, .int p3)]) C (by decide) rfl dX5_bind_1 ?_
  obtain ⟨i1, A2, h3, h⟩ := zb2_e h
  refine zr_lv (lv' := [(0, .ref h0), (1, .ref r0), (2, .int p1), (3, .int p2), (4, .int p3), (5, .int 0)]) C [1, 2, 3, 4, 5, 0] rfl ?_
  refine w_X5_bind_3 l D cy hZ C (Nat.le_of_ble_eq_true rfl) (Nat.le_of_ble_eq_true rfl) ⟨Nat.le_refl _, Nat.le_refl _⟩ h0 r0 p1 p2 p3 k_h0 k_r0 I  2000 (0, A) (i1, A2) h3 ?_
  obtain rfl := zso h
  exact zr_vret C hr dX5_bind_123
end
section
def g_X5_boundWith_19 (F G : Nat → Nat → Nat) (v0 : Nat) (v2 : Int32) (v3 : Int32) (I : zH) (A : zH) : Option ((Int32 × Int32) ⊕ (Int32 × Int32)) :=
  if (I v0 8) ≤ v3 then (
    some (.inr (v2, v3))
  ) else (
    zb (f_X0_licencesOf F G (F v0 7) v3 I A) fun r2 =>
    zb (f_X0_licencesOf F G (F v0 6) v3 I A) fun r5 =>
    if r2 = r5 then (
      some (.inl (v2, v3 + 1))
    ) else (
      some (.inl (v2 + 1, v3 + 1))
    )
  )
def f_X5_boundWith (F G : Nat → Nat → Nat) (h0 : Nat) (p0 : Int32) (I A : zH) : Option (Int32 × zH) :=
  zb (f_X5_needNearness F G p0 I A) fun _ =>
  zb (f_X5_bind F G h0 (F h0 7) p0 (-1) (-1) I A) fun A3 =>
  zb2 (zIt (fun x => g_X5_boundWith_19 F G h0 x.1 x.2 I A3) 2000 (0, 0)) fun i6 i7 =>
  some (i6, A3)
set_option maxHeartbeats 4000000 in
set_option maxRecDepth 100000 in
theorem wb_X5_boundWith_19 (l : Launch) (D : va_G) (cy : Nat → ClassId) {L : List Nat} {K N : Nat → Nat} {F G : Nat → Nat → Nat} (hZ : ZL L K N F G) {p : Program} {e : Env} {R : Room} {s : State} {m : MethodId} {args : Array Value} {below : List Frame} {meth : Method} {c : Code} {cells slots : Nat} {Q : State → Prop} (C : ZC p s m args meth c cX5_boundWith yX5_boundWith.cls 4 D cy L K N F G) (hRf : 1 ≤ R.frames) (hRl : 21 ≤ R.locals) (hRc : cells ≤ R.cells ∧ slots ≤ R.slots)  (v0 : Nat) (k0 : K v0 = 5) (I : zH) (A : zH) (v2 : Int32) (v3 : Int32) (o : (Int32 × Int32) ⊕ (Int32 × Int32)) (h : g_X5_boundWith_19 F G v0 v2 v3 I A = some o)
    (hg : ∀ y : Int32 × Int32, o = .inl y → ZW p l e R s m args below meth c 4 D cy L K N F G cells slots Q I A 19 [(0, .ref v0), (2, .int y.1), (3, .int y.2)] [])
    (hx : ∀ y : Int32 × Int32, o = .inr y → ZW p l e R s m args below meth c 4 D cy L K N F G cells slots Q I A 55 [(0, .ref v0), (2, .int y.1), (3, .int y.2)] []) : ZW p l e R s m args below meth c 4 D cy L K N F G cells slots Q I A 19 [(0, .ref v0), (2, .int v2), (3, .int v3)] [] := by
  unfold g_X5_boundWith_19 at h
  refine zr_iload_n C 2 rfl rfl dX5_boundWith_19 ?_
  refine zr_aload_n C 0 rfl rfl dX5_boundWith_20 ?_
  refine zr_get (ci := 5) (k := 8) (v := .int (I v0 8)) C k0 (by decide) rfl zinX5 (by decide) wd_166 rfl dX5_boundWith_21 ?_
  refine zr_icmp_ge (tgt := 55) C (by decide) dX5_boundWith_24 (fun hc1 => ?_) (fun hc1 => ?_)
  · have h := zif_t hc1 h
    obtain rfl := zso h
    refine zr_lv (lv' := [(0, .ref v0), (2, .int v2), (3, .int v3)]) C [0, 1, 2] rfl ?_
    exact hx _ rfl
  · have h := zif_f hc1 h
    refine zr_aload_n C 0 rfl rfl dX5_boundWith_27 ?_
    refine zr_get (ci := 5) (k := 7) (v := .ref (F v0 7)) C k0 (by decide) rfl zinX5 (by decide) wd_165 rfl dX5_boundWith_28 ?_
    refine zr_iload_n C 2 rfl rfl dX5_boundWith_31 ?_
    obtain ⟨r2, h3, h⟩ := zb_e h
    refine zr_callVi (n := 1) (As := [.int v3]) C (c_X0_licencesOf l D cy hZ (F v0 7) v3 (zt57 hZ k0) I A h3) wd_314 wd_315 wd_316 wd_3 wd_317 (by decide +kernel) ⟨(Nat.le_trans (Nat.le_of_ble_eq_true rfl) hRf), (Nat.le_trans (Nat.le_of_ble_eq_true rfl) hRl)⟩ rfl rfl hRc (zt57 hZ k0) (by decide) rfl rfl rfl (Nat.le_of_ble_eq_true rfl) dX5_boundWith_32 ?_
    refine zr_aload_n C 0 rfl rfl dX5_boundWith_35 ?_
    refine zr_get (ci := 5) (k := 6) (v := .ref (F v0 6)) C k0 (by decide) rfl zinX5 (by decide) wd_164 rfl dX5_boundWith_36 ?_
    refine zr_iload_n C 2 rfl rfl dX5_boundWith_39 ?_
    obtain ⟨r5, h6, h⟩ := zb_e h
    refine zr_callVi (n := 1) (As := [.int v3]) C (c_X0_licencesOf l D cy hZ (F v0 6) v3 (zt56 hZ k0) I A h6) wd_314 wd_315 wd_316 wd_3 wd_317 (by decide +kernel) ⟨(Nat.le_trans (Nat.le_of_ble_eq_true rfl) hRf), (Nat.le_trans (Nat.le_of_ble_eq_true rfl) hRl)⟩ rfl rfl hRc (zt56 hZ k0) (by decide) rfl rfl rfl (Nat.le_of_ble_eq_true rfl) dX5_boundWith_40 ?_
    refine zr_icmp_eq (tgt := 49) C (by decide) dX5_boundWith_43 (fun hc8 => ?_) (fun hc8 => ?_)
    · have h := zif_t hc8 h
      refine zr_iinc (v := v3 + 1) (lv' := [(3, .int (v3 + 1)), (0, .ref v0), (2, .int v2)]) C 2 rfl rfl (by decide) rfl dX5_boundWith_49 ?_
      refine zr_goto (tgt := 19) C (by decide) dX5_boundWith_52 ?_
      obtain rfl := zso h
      refine zr_lv (lv' := [(0, .ref v0), (2, .int v2), (3, .int (v3 + 1))]) C [1, 2, 0] rfl ?_
      exact hg _ rfl
    · have h := zif_f hc8 h
      refine zr_iinc (v := v2 + 1) (lv' := [(2, .int (v2 + 1)), (0, .ref v0), (3, .int v3)]) C 1 rfl rfl (by decide) rfl dX5_boundWith_46 ?_
      refine zr_iinc (v := v3 + 1) (lv' := [(3, .int (v3 + 1)), (2, .int (v2 + 1)), (0, .ref v0)]) C 2 rfl rfl (by decide) rfl dX5_boundWith_49 ?_
      refine zr_goto (tgt := 19) C (by decide) dX5_boundWith_52 ?_
      obtain rfl := zso h
      refine zr_lv (lv' := [(0, .ref v0), (2, .int (v2 + 1)), (3, .int (v3 + 1))]) C [2, 1, 0] rfl ?_
      exact hg _ rfl
set_option maxHeartbeats 4000000 in
set_option maxRecDepth 100000 in
theorem w_X5_boundWith_19 (l : Launch) (D : va_G) (cy : Nat → ClassId) {L : List Nat} {K N : Nat → Nat} {F G : Nat → Nat → Nat} (hZ : ZL L K N F G) {p : Program} {e : Env} {R : Room} {s : State} {m : MethodId} {args : Array Value} {below : List Frame} {meth : Method} {c : Code} {cells slots : Nat} {Q : State → Prop} (C : ZC p s m args meth c cX5_boundWith yX5_boundWith.cls 4 D cy L K N F G) (hRf : 1 ≤ R.frames) (hRl : 21 ≤ R.locals) (hRc : cells ≤ R.cells ∧ slots ≤ R.slots)  (v0 : Nat) (k0 : K v0 = 5) (I : zH) (A : zH) (n : Nat) (x : Int32 × Int32) (o : Int32 × Int32) (h : zIt (fun x => g_X5_boundWith_19 F G v0 x.1 x.2 I A) n x = some o)
    (hx : ZW p l e R s m args below meth c 4 D cy L K N F G cells slots Q I A 55 [(0, .ref v0), (2, .int o.1), (3, .int o.2)] []) : ZW p l e R s m args below meth c 4 D cy L K N F G cells slots Q I A 19 [(0, .ref v0), (2, .int x.1), (3, .int x.2)] [] := by
  induction n generalizing x with
  | zero => cases h
  | succ n ih =>
    unfold zIt at h
    cases hb : g_X5_boundWith_19 F G v0 x.1 x.2 I A with
    | none => rw [hb] at h; cases h
    | some q =>
      rw [hb] at h
      refine wb_X5_boundWith_19 l D cy hZ C hRf hRl hRc v0 k0 I A x.1 x.2 q hb (fun y hy => ?_) (fun y hy => ?_)
      · subst hy; exact ih y h
      · subst hy; cases h; exact hx
set_option maxHeartbeats 4000000 in
set_option maxRecDepth 100000 in
theorem c_X5_boundWith (l : Launch) (D : va_G) (cy : Nat → ClassId) {L : List Nat} {K N : Nat → Nat} {F G : Nat → Nat → Nat} (hZ : ZL L K N F G) (h0 : Nat) (p0 : Int32) (k_h0 : K h0 = 5) (I A : zH) {r : Int32} {B' : zH} (h : f_X5_boundWith F G h0 p0 I A = some (r, B')) : ZMi l yX5_boundWith cX5_boundWith 4 (some .int) { frames := 3, cells := 0, slots := 0, locals := 75 } D cy L K N F G [.ref h0, .int p0] I A r I B' := by
  refine ZMi.of (nL := 4) hZ rfl rfl (by decide) (Nat.le_of_ble_eq_true rfl) (fun p e s m args below meth c C hr => ?_)
  unfold f_X5_boundWith at h
  refine zr_lv (lv' := [(0, .ref h0), (1, .int p0)]) C [0, 1] rfl ?_
  refine zr_iload_n C 1 rfl rfl dX5_boundWith_0 ?_
  obtain ⟨_, h1, h⟩ := zb_e h
  refine zr_callSv (n := 1) (As := [.int p0]) C (c_X5_needNearness l D cy hZ p0 I A h1) wd_642 wd_643 wd_1 wd_644 (by decide +kernel) ⟨(Nat.le_of_ble_eq_true rfl), (Nat.le_of_ble_eq_true rfl)⟩ rfl rfl ⟨Nat.le_refl _, Nat.le_refl _⟩ rfl rfl (Nat.le_of_ble_eq_true rfl) dX5_boundWith_1 ?_
  refine zr_aload_n C 0 rfl rfl dX5_boundWith_4 ?_
  refine zr_aload_n C 0 rfl rfl dX5_boundWith_5 ?_
  refine zr_get (ci := 5) (k := 7) (v := .ref (F h0 7)) C k_h0 (by decide) rfl zinX5 (by decide) wd_165 rfl dX5_boundWith_6 ?_
  refine zr_iload_n C 1 rfl rfl dX5_boundWith_9 ?_
  refine zr_iconst (v := (-1)) C (by decide) dX5_boundWith_10 ?_
  refine zr_iconst (v := (-1)) C (by decide) dX5_boundWith_11 ?_
  obtain ⟨A3, h4, h⟩ := zb_e h
  refine zr_callVv (n := 4) (As := [.ref (F h0 7), .int p0, .int (-1), .int (-1)]) C (c_X5_bind l D cy hZ h0 (F h0 7) p0 (-1) (-1) k_h0 (zt57 hZ k_h0) I A h4) wd_310 wd_312 wp_8 wd_1 wd_313 (by decide +kernel) ⟨(Nat.le_of_ble_eq_true rfl), (Nat.le_of_ble_eq_true rfl)⟩ rfl rfl ⟨Nat.le_refl _, Nat.le_refl _⟩ k_h0 (by decide) rfl rfl rfl (Nat.le_of_ble_eq_true rfl) dX5_boundWith_12 ?_
  refine zr_iconst (v := 0) C (by decide) dX5_boundWith_15 ?_
  refine zr_istore_n (lv' := [(2, .int 0), (0, .ref h0), (1, .int p0)]) C rfl (by decide) rfl dX5_boundWith_16 ?_
  refine zr_iconst (v := 0) C (by decide) dX5_boundWith_17 ?_
  refine zr_istore_n (lv' := [(3, .int 0), (2, .int 0), (0, .ref h0), (1, .int p0)]) C rfl (by decide) rfl dX5_boundWith_18 ?_
  obtain ⟨i6, i7, h8, h⟩ := zb2_e h
  refine zr_lv (lv' := [(0, .ref h0), (2, .int 0), (3, .int 0)]) C [2, 1, 0] rfl ?_
  refine w_X5_boundWith_19 l D cy hZ C (Nat.le_of_ble_eq_true rfl) (Nat.le_of_ble_eq_true rfl) ⟨Nat.le_refl _, Nat.le_refl _⟩ h0 k_h0 I A3 2000 (0, 0) (i6, i7) h8 ?_
  refine zr_iload_n C 1 rfl rfl dX5_boundWith_55 ?_
  cases zso h
  exact zr_iret C hr dX5_boundWith_56

def g_X5_digest_6 (F G : Nat → Nat → Nat) (v0 : Nat) (v1 : Int64) (v3 : Int32) (I : zH) (A : zH) : Option ((Int64 × Int32) ⊕ (Int64 × Int32)) :=
  if 11 ≤ v3 then (
    some (.inr (v1, v3))
  ) else (
    zb (f_X5_many F G v0 v3 I A) fun r2 =>
    zb (f_X5_fold F G v1 r2 I A) fun r5 =>
    some (.inl (r5, v3 + 1))
  )
def g_X5_digest_30 (F G : Nat → Nat → Nat) (v0 : Nat) (v1 : Int64) (v3 : Int32) (I : zH) (A : zH) : Option ((Int64 × Int32) ⊕ (Int64 × Int32)) :=
  if (I v0 8) ≤ v3 then (
    some (.inr (v1, v3))
  ) else (
    zb (f_X5_foldPiece F G v0 v1 v3 I A) fun r2 =>
    some (.inl (r2, v3 + 1))
  )
def g_X5_digest_53 (F G : Nat → Nat → Nat) (v0 : Nat) (v1 : Int64) (v3 : Int32) (I : zH) (A : zH) : Option ((Int64 × Int32) ⊕ (Int64 × Int32)) :=
  if (I v0 9) ≤ v3 then (
    some (.inr (v1, v3))
  ) else (
    zb (f_X5_foldLicence F G v0 v1 v3 I A) fun r2 =>
    some (.inl (r2, v3 + 1))
  )
def g_X5_digest_76 (F G : Nat → Nat → Nat) (v0 : Nat) (v1 : Int64) (v3 : Int32) (A : zH) (I : zH) : Option ((Int64 × Int32 × zH) ⊕ (Int64 × Int32 × zH)) :=
  if (I v0 10) ≤ v3 then (
    some (.inr (v1, v3, A))
  ) else (
    zb2 (f_X5_foldProject F G v0 v1 v3 I A) fun r2 A3 =>
    some (.inl (r2, v3 + 1, A3))
  )
def f_X5_digest (F G : Nat → Nat → Nat) (h0 : Nat) (I A : zH) : Option (Int64 × zH) :=
  zb2 (zIt (fun x => g_X5_digest_6 F G h0 x.1 x.2 I A) 2000 (58109, 0)) fun j1 i2 =>
  zb2 (zIt (fun x => g_X5_digest_30 F G h0 x.1 x.2 I A) 2000 (j1, 0)) fun j3 i4 =>
  zb2 (zIt (fun x => g_X5_digest_53 F G h0 x.1 x.2 I A) 2000 (j3, 0)) fun j5 i6 =>
  zb3 (zIt (fun x => g_X5_digest_76 F G h0 x.1 x.2.1 x.2.2 I ) 2000 (j5, 0, A)) fun j7 i8 A9 =>
  zb2 (f_X5_boundWith F G h0 30 I A9) fun r10 A11 =>
  zb (f_X5_fold F G j7 r10 I A11) fun r14 =>
  zb2 (f_X5_boundWith F G h0 90 I A11) fun r17 A18 =>
  zb (f_X5_fold F G r14 r17 I A18) fun r21 =>
  some (r21, A18)
set_option maxHeartbeats 4000000 in
set_option maxRecDepth 100000 in
theorem wb_X5_digest_6 (l : Launch) (D : va_G) (cy : Nat → ClassId) {L : List Nat} {K N : Nat → Nat} {F G : Nat → Nat → Nat} (hZ : ZL L K N F G) {p : Program} {e : Env} {R : Room} {s : State} {m : MethodId} {args : Array Value} {below : List Frame} {meth : Method} {c : Code} {cells slots : Nat} {Q : State → Prop} (C : ZC p s m args meth c cX5_digest yX5_digest.cls 4 D cy L K N F G) (hRf : 3 ≤ R.frames) (hRl : 63 ≤ R.locals) (hRc : cells ≤ R.cells ∧ slots ≤ R.slots)  (v0 : Nat) (k0 : K v0 = 5) (I : zH) (A : zH) (v1 : Int64) (v3 : Int32) (o : (Int64 × Int32) ⊕ (Int64 × Int32)) (h : g_X5_digest_6 F G v0 v1 v3 I A = some o)
    (hg : ∀ y : Int64 × Int32, o = .inl y → ZW p l e R s m args below meth c 4 D cy L K N F G cells slots Q I A 6 [(0, .ref v0), (1, .long y.1), (3, .int y.2)] [])
    (hx : ∀ y : Int64 × Int32, o = .inr y → ZW p l e R s m args below meth c 4 D cy L K N F G cells slots Q I A 28 [(0, .ref v0), (1, .long y.1), (3, .int y.2)] []) : ZW p l e R s m args below meth c 4 D cy L K N F G cells slots Q I A 6 [(0, .ref v0), (1, .long v1), (3, .int v3)] [] := by
  unfold g_X5_digest_6 at h
  refine zr_iload_n C 2 rfl rfl dX5_digest_6 ?_
  refine zr_bipush (v := 11) C (by decide) dX5_digest_7 ?_
  refine zr_icmp_ge (tgt := 28) C (by decide) dX5_digest_9 (fun hc1 => ?_) (fun hc1 => ?_)
  · have h := zif_t hc1 h
    obtain rfl := zso h
    refine zr_lv (lv' := [(0, .ref v0), (1, .long v1), (3, .int v3)]) C [0, 1, 2] rfl ?_
    exact hx _ rfl
  · have h := zif_f hc1 h
    refine zr_lload_n C 1 rfl rfl dX5_digest_12 ?_
    refine zr_aload_n C 0 rfl rfl dX5_digest_13 ?_
    refine zr_iload_n C 2 rfl rfl dX5_digest_14 ?_
    obtain ⟨r2, h3, h⟩ := zb_e h
    refine zr_callVi (n := 1) (As := [.int v3]) C (c_X5_many l D cy hZ v0 v3 k0 I A h3) wd_598 wd_508 wd_509 wd_1 wd_510 (by decide +kernel) ⟨(Nat.le_trans (Nat.le_of_ble_eq_true rfl) hRf), (Nat.le_trans (Nat.le_of_ble_eq_true rfl) hRl)⟩ rfl rfl hRc k0 (by decide) rfl rfl rfl (Nat.le_of_ble_eq_true rfl) dX5_digest_15 ?_
    obtain ⟨r5, h6, h⟩ := zb_e h
    refine zr_callSl (n := 2) (As := [.long v1, .int r2]) C (c_X5_fold l D cy hZ v1 r2 I A h6) wd_599 wd_600 wd_1 wd_601 (by decide +kernel) ⟨(Nat.le_trans (Nat.le_of_ble_eq_true rfl) hRf), (Nat.le_trans (Nat.le_of_ble_eq_true rfl) hRl)⟩ rfl rfl hRc rfl rfl (Nat.le_of_ble_eq_true rfl) dX5_digest_18 ?_
    refine zr_lstore_n (lv' := [(1, .long r5), (0, .ref v0), (3, .int v3)]) C rfl (by decide) rfl dX5_digest_21 ?_
    refine zr_iinc (v := v3 + 1) (lv' := [(3, .int (v3 + 1)), (1, .long r5), (0, .ref v0)]) C 2 rfl rfl (by decide) rfl dX5_digest_22 ?_
    refine zr_goto (tgt := 6) C (by decide) dX5_digest_25 ?_
    obtain rfl := zso h
    refine zr_lv (lv' := [(0, .ref v0), (1, .long r5), (3, .int (v3 + 1))]) C [2, 1, 0] rfl ?_
    exact hg _ rfl
set_option maxHeartbeats 4000000 in
set_option maxRecDepth 100000 in
theorem w_X5_digest_6 (l : Launch) (D : va_G) (cy : Nat → ClassId) {L : List Nat} {K N : Nat → Nat} {F G : Nat → Nat → Nat} (hZ : ZL L K N F G) {p : Program} {e : Env} {R : Room} {s : State} {m : MethodId} {args : Array Value} {below : List Frame} {meth : Method} {c : Code} {cells slots : Nat} {Q : State → Prop} (C : ZC p s m args meth c cX5_digest yX5_digest.cls 4 D cy L K N F G) (hRf : 3 ≤ R.frames) (hRl : 63 ≤ R.locals) (hRc : cells ≤ R.cells ∧ slots ≤ R.slots)  (v0 : Nat) (k0 : K v0 = 5) (I : zH) (A : zH) (n : Nat) (x : Int64 × Int32) (o : Int64 × Int32) (h : zIt (fun x => g_X5_digest_6 F G v0 x.1 x.2 I A) n x = some o)
    (hx : ZW p l e R s m args below meth c 4 D cy L K N F G cells slots Q I A 28 [(0, .ref v0), (1, .long o.1), (3, .int o.2)] []) : ZW p l e R s m args below meth c 4 D cy L K N F G cells slots Q I A 6 [(0, .ref v0), (1, .long x.1), (3, .int x.2)] [] := by
  induction n generalizing x with
  | zero => cases h
  | succ n ih =>
    unfold zIt at h
    cases hb : g_X5_digest_6 F G v0 x.1 x.2 I A with
    | none => rw [hb] at h; cases h
    | some q =>
      rw [hb] at h
      refine wb_X5_digest_6 l D cy hZ C hRf hRl hRc v0 k0 I A x.1 x.2 q hb (fun y hy => ?_) (fun y hy => ?_)
      · subst hy; exact ih y h
      · subst hy; cases h; exact hx
set_option maxHeartbeats 4000000 in
set_option maxRecDepth 100000 in
theorem wb_X5_digest_30 (l : Launch) (D : va_G) (cy : Nat → ClassId) {L : List Nat} {K N : Nat → Nat} {F G : Nat → Nat → Nat} (hZ : ZL L K N F G) {p : Program} {e : Env} {R : Room} {s : State} {m : MethodId} {args : Array Value} {below : List Frame} {meth : Method} {c : Code} {cells slots : Nat} {Q : State → Prop} (C : ZC p s m args meth c cX5_digest yX5_digest.cls 4 D cy L K N F G) (hRf : 5 ≤ R.frames) (hRl : 116 ≤ R.locals) (hRc : cells ≤ R.cells ∧ slots ≤ R.slots)  (v0 : Nat) (k0 : K v0 = 5) (I : zH) (A : zH) (v1 : Int64) (v3 : Int32) (o : (Int64 × Int32) ⊕ (Int64 × Int32)) (h : g_X5_digest_30 F G v0 v1 v3 I A = some o)
    (hg : ∀ y : Int64 × Int32, o = .inl y → ZW p l e R s m args below meth c 4 D cy L K N F G cells slots Q I A 30 [(0, .ref v0), (1, .long y.1), (3, .int y.2)] [])
    (hx : ∀ y : Int64 × Int32, o = .inr y → ZW p l e R s m args below meth c 4 D cy L K N F G cells slots Q I A 51 [(0, .ref v0), (1, .long y.1), (3, .int y.2)] []) : ZW p l e R s m args below meth c 4 D cy L K N F G cells slots Q I A 30 [(0, .ref v0), (1, .long v1), (3, .int v3)] [] := by
  unfold g_X5_digest_30 at h
  refine zr_iload_n C 2 rfl rfl dX5_digest_30 ?_
  refine zr_aload_n C 0 rfl rfl dX5_digest_31 ?_
  refine zr_get (ci := 5) (k := 8) (v := .int (I v0 8)) C k0 (by decide) rfl zinX5 (by decide) wd_166 rfl dX5_digest_32 ?_
  refine zr_icmp_ge (tgt := 51) C (by decide) dX5_digest_35 (fun hc1 => ?_) (fun hc1 => ?_)
  · have h := zif_t hc1 h
    obtain rfl := zso h
    refine zr_lv (lv' := [(0, .ref v0), (1, .long v1), (3, .int v3)]) C [0, 1, 2] rfl ?_
    exact hx _ rfl
  · have h := zif_f hc1 h
    refine zr_aload_n C 0 rfl rfl dX5_digest_38 ?_
    refine zr_lload_n C 1 rfl rfl dX5_digest_39 ?_
    refine zr_iload_n C 2 rfl rfl dX5_digest_40 ?_
    obtain ⟨r2, h3, h⟩ := zb_e h
    refine zr_callVl (n := 2) (As := [.long v1, .int v3]) C (c_X5_foldPiece l D cy hZ v0 v1 v3 k0 I A h3) wd_603 wd_605 wp_23 wd_1 wd_606 (by decide +kernel) ⟨(Nat.le_trans (Nat.le_of_ble_eq_true rfl) hRf), (Nat.le_trans (Nat.le_of_ble_eq_true rfl) hRl)⟩ rfl rfl hRc k0 (by decide) rfl rfl rfl (Nat.le_of_ble_eq_true rfl) dX5_digest_41 ?_
    refine zr_lstore_n (lv' := [(1, .long r2), (0, .ref v0), (3, .int v3)]) C rfl (by decide) rfl dX5_digest_44 ?_
    refine zr_iinc (v := v3 + 1) (lv' := [(3, .int (v3 + 1)), (1, .long r2), (0, .ref v0)]) C 2 rfl rfl (by decide) rfl dX5_digest_45 ?_
    refine zr_goto (tgt := 30) C (by decide) dX5_digest_48 ?_
    obtain rfl := zso h
    refine zr_lv (lv' := [(0, .ref v0), (1, .long r2), (3, .int (v3 + 1))]) C [2, 1, 0] rfl ?_
    exact hg _ rfl
set_option maxHeartbeats 4000000 in
set_option maxRecDepth 100000 in
theorem w_X5_digest_30 (l : Launch) (D : va_G) (cy : Nat → ClassId) {L : List Nat} {K N : Nat → Nat} {F G : Nat → Nat → Nat} (hZ : ZL L K N F G) {p : Program} {e : Env} {R : Room} {s : State} {m : MethodId} {args : Array Value} {below : List Frame} {meth : Method} {c : Code} {cells slots : Nat} {Q : State → Prop} (C : ZC p s m args meth c cX5_digest yX5_digest.cls 4 D cy L K N F G) (hRf : 5 ≤ R.frames) (hRl : 116 ≤ R.locals) (hRc : cells ≤ R.cells ∧ slots ≤ R.slots)  (v0 : Nat) (k0 : K v0 = 5) (I : zH) (A : zH) (n : Nat) (x : Int64 × Int32) (o : Int64 × Int32) (h : zIt (fun x => g_X5_digest_30 F G v0 x.1 x.2 I A) n x = some o)
    (hx : ZW p l e R s m args below meth c 4 D cy L K N F G cells slots Q I A 51 [(0, .ref v0), (1, .long o.1), (3, .int o.2)] []) : ZW p l e R s m args below meth c 4 D cy L K N F G cells slots Q I A 30 [(0, .ref v0), (1, .long x.1), (3, .int x.2)] [] := by
  induction n generalizing x with
  | zero => cases h
  | succ n ih =>
    unfold zIt at h
    cases hb : g_X5_digest_30 F G v0 x.1 x.2 I A with
    | none => rw [hb] at h; cases h
    | some q =>
      rw [hb] at h
      refine wb_X5_digest_30 l D cy hZ C hRf hRl hRc v0 k0 I A x.1 x.2 q hb (fun y hy => ?_) (fun y hy => ?_)
      · subst hy; exact ih y h
      · subst hy; cases h; exact hx
set_option maxHeartbeats 4000000 in
set_option maxRecDepth 100000 in
theorem wb_X5_digest_53 (l : Launch) (D : va_G) (cy : Nat → ClassId) {L : List Nat} {K N : Nat → Nat} {F G : Nat → Nat → Nat} (hZ : ZL L K N F G) {p : Program} {e : Env} {R : Room} {s : State} {m : MethodId} {args : Array Value} {below : List Frame} {meth : Method} {c : Code} {cells slots : Nat} {Q : State → Prop} (C : ZC p s m args meth c cX5_digest yX5_digest.cls 4 D cy L K N F G) (hRf : 4 ≤ R.frames) (hRl : 93 ≤ R.locals) (hRc : cells ≤ R.cells ∧ slots ≤ R.slots)  (v0 : Nat) (k0 : K v0 = 5) (I : zH) (A : zH) (v1 : Int64) (v3 : Int32) (o : (Int64 × Int32) ⊕ (Int64 × Int32)) (h : g_X5_digest_53 F G v0 v1 v3 I A = some o)
    (hg : ∀ y : Int64 × Int32, o = .inl y → ZW p l e R s m args below meth c 4 D cy L K N F G cells slots Q I A 53 [(0, .ref v0), (1, .long y.1), (3, .int y.2)] [])
    (hx : ∀ y : Int64 × Int32, o = .inr y → ZW p l e R s m args below meth c 4 D cy L K N F G cells slots Q I A 74 [(0, .ref v0), (1, .long y.1), (3, .int y.2)] []) : ZW p l e R s m args below meth c 4 D cy L K N F G cells slots Q I A 53 [(0, .ref v0), (1, .long v1), (3, .int v3)] [] := by
  unfold g_X5_digest_53 at h
  refine zr_iload_n C 2 rfl rfl dX5_digest_53 ?_
  refine zr_aload_n C 0 rfl rfl dX5_digest_54 ?_
  refine zr_get (ci := 5) (k := 9) (v := .int (I v0 9)) C k0 (by decide) rfl zinX5 (by decide) wd_167 rfl dX5_digest_55 ?_
  refine zr_icmp_ge (tgt := 74) C (by decide) dX5_digest_58 (fun hc1 => ?_) (fun hc1 => ?_)
  · have h := zif_t hc1 h
    obtain rfl := zso h
    refine zr_lv (lv' := [(0, .ref v0), (1, .long v1), (3, .int v3)]) C [0, 1, 2] rfl ?_
    exact hx _ rfl
  · have h := zif_f hc1 h
    refine zr_aload_n C 0 rfl rfl dX5_digest_61 ?_
    refine zr_lload_n C 1 rfl rfl dX5_digest_62 ?_
    refine zr_iload_n C 2 rfl rfl dX5_digest_63 ?_
    obtain ⟨r2, h3, h⟩ := zb_e h
    refine zr_callVl (n := 2) (As := [.long v1, .int v3]) C (c_X5_foldLicence l D cy hZ v0 v1 v3 k0 I A h3) wd_613 wd_615 wp_24 wd_1 wd_616 (by decide +kernel) ⟨(Nat.le_trans (Nat.le_of_ble_eq_true rfl) hRf), (Nat.le_trans (Nat.le_of_ble_eq_true rfl) hRl)⟩ rfl rfl hRc k0 (by decide) rfl rfl rfl (Nat.le_of_ble_eq_true rfl) dX5_digest_64 ?_
    refine zr_lstore_n (lv' := [(1, .long r2), (0, .ref v0), (3, .int v3)]) C rfl (by decide) rfl dX5_digest_67 ?_
    refine zr_iinc (v := v3 + 1) (lv' := [(3, .int (v3 + 1)), (1, .long r2), (0, .ref v0)]) C 2 rfl rfl (by decide) rfl dX5_digest_68 ?_
    refine zr_goto (tgt := 53) C (by decide) dX5_digest_71 ?_
    obtain rfl := zso h
    refine zr_lv (lv' := [(0, .ref v0), (1, .long r2), (3, .int (v3 + 1))]) C [2, 1, 0] rfl ?_
    exact hg _ rfl
set_option maxHeartbeats 4000000 in
set_option maxRecDepth 100000 in
theorem w_X5_digest_53 (l : Launch) (D : va_G) (cy : Nat → ClassId) {L : List Nat} {K N : Nat → Nat} {F G : Nat → Nat → Nat} (hZ : ZL L K N F G) {p : Program} {e : Env} {R : Room} {s : State} {m : MethodId} {args : Array Value} {below : List Frame} {meth : Method} {c : Code} {cells slots : Nat} {Q : State → Prop} (C : ZC p s m args meth c cX5_digest yX5_digest.cls 4 D cy L K N F G) (hRf : 4 ≤ R.frames) (hRl : 93 ≤ R.locals) (hRc : cells ≤ R.cells ∧ slots ≤ R.slots)  (v0 : Nat) (k0 : K v0 = 5) (I : zH) (A : zH) (n : Nat) (x : Int64 × Int32) (o : Int64 × Int32) (h : zIt (fun x => g_X5_digest_53 F G v0 x.1 x.2 I A) n x = some o)
    (hx : ZW p l e R s m args below meth c 4 D cy L K N F G cells slots Q I A 74 [(0, .ref v0), (1, .long o.1), (3, .int o.2)] []) : ZW p l e R s m args below meth c 4 D cy L K N F G cells slots Q I A 53 [(0, .ref v0), (1, .long x.1), (3, .int x.2)] [] := by
  induction n generalizing x with
  | zero => cases h
  | succ n ih =>
    unfold zIt at h
    cases hb : g_X5_digest_53 F G v0 x.1 x.2 I A with
    | none => rw [hb] at h; cases h
    | some q =>
      rw [hb] at h
      refine wb_X5_digest_53 l D cy hZ C hRf hRl hRc v0 k0 I A x.1 x.2 q hb (fun y hy => ?_) (fun y hy => ?_)
      · subst hy; exact ih y h
      · subst hy; cases h; exact hx
set_option maxHeartbeats 4000000 in
set_option maxRecDepth 100000 in
theorem wb_X5_digest_76 (l : Launch) (D : va_G) (cy : Nat → ClassId) {L : List Nat} {K N : Nat → Nat} {F G : Nat → Nat → Nat} (hZ : ZL L K N F G) {p : Program} {e : Env} {R : Room} {s : State} {m : MethodId} {args : Array Value} {below : List Frame} {meth : Method} {c : Code} {cells slots : Nat} {Q : State → Prop} (C : ZC p s m args meth c cX5_digest yX5_digest.cls 4 D cy L K N F G) (hRf : 6 ≤ R.frames) (hRl : 145 ≤ R.locals) (hRc : cells ≤ R.cells ∧ slots ≤ R.slots)  (v0 : Nat) (k0 : K v0 = 5) (I : zH) (v1 : Int64) (v3 : Int32) (A : zH) (o : (Int64 × Int32 × zH) ⊕ (Int64 × Int32 × zH)) (h : g_X5_digest_76 F G v0 v1 v3 A I = some o)
    (hg : ∀ y : Int64 × Int32 × zH, o = .inl y → ZW p l e R s m args below meth c 4 D cy L K N F G cells slots Q I y.2.2 76 [(0, .ref v0), (1, .long y.1), (3, .int y.2.1)] [])
    (hx : ∀ y : Int64 × Int32 × zH, o = .inr y → ZW p l e R s m args below meth c 4 D cy L K N F G cells slots Q I y.2.2 97 [(0, .ref v0), (1, .long y.1), (3, .int y.2.1)] []) : ZW p l e R s m args below meth c 4 D cy L K N F G cells slots Q I A 76 [(0, .ref v0), (1, .long v1), (3, .int v3)] [] := by
  unfold g_X5_digest_76 at h
  refine zr_iload_n C 2 rfl rfl dX5_digest_76 ?_
  refine zr_aload_n C 0 rfl rfl dX5_digest_77 ?_
  refine zr_get (ci := 5) (k := 10) (v := .int (I v0 10)) C k0 (by decide) rfl zinX5 (by decide) wd_168 rfl dX5_digest_78 ?_
  refine zr_icmp_ge (tgt := 97) C (by decide) dX5_digest_81 (fun hc1 => ?_) (fun hc1 => ?_)
  · have h := zif_t hc1 h
    obtain rfl := zso h
    refine zr_lv (lv' := [(0, .ref v0), (1, .long v1), (3, .int v3)]) C [0, 1, 2] rfl ?_
    exact hx _ rfl
  · have h := zif_f hc1 h
    refine zr_aload_n C 0 rfl rfl dX5_digest_84 ?_
    refine zr_lload_n C 1 rfl rfl dX5_digest_85 ?_
    refine zr_iload_n C 2 rfl rfl dX5_digest_86 ?_
    obtain ⟨r2, A3, h4, h⟩ := zb2_e h
    refine zr_callVl (n := 2) (As := [.long v1, .int v3]) C (c_X5_foldProject l D cy hZ v0 v1 v3 k0 I A h4) wd_618 wd_620 wp_25 wd_1 wd_621 (by decide +kernel) ⟨(Nat.le_trans (Nat.le_of_ble_eq_true rfl) hRf), (Nat.le_trans (Nat.le_of_ble_eq_true rfl) hRl)⟩ rfl rfl hRc k0 (by decide) rfl rfl rfl (Nat.le_of_ble_eq_true rfl) dX5_digest_87 ?_
    refine zr_lstore_n (lv' := [(1, .long r2), (0, .ref v0), (3, .int v3)]) C rfl (by decide) rfl dX5_digest_90 ?_
    refine zr_iinc (v := v3 + 1) (lv' := [(3, .int (v3 + 1)), (1, .long r2), (0, .ref v0)]) C 2 rfl rfl (by decide) rfl dX5_digest_91 ?_
    refine zr_goto (tgt := 76) C (by decide) dX5_digest_94 ?_
    obtain rfl := zso h
    refine zr_lv (lv' := [(0, .ref v0), (1, .long r2), (3, .int (v3 + 1))]) C [2, 1, 0] rfl ?_
    exact hg _ rfl
set_option maxHeartbeats 4000000 in
set_option maxRecDepth 100000 in
theorem w_X5_digest_76 (l : Launch) (D : va_G) (cy : Nat → ClassId) {L : List Nat} {K N : Nat → Nat} {F G : Nat → Nat → Nat} (hZ : ZL L K N F G) {p : Program} {e : Env} {R : Room} {s : State} {m : MethodId} {args : Array Value} {below : List Frame} {meth : Method} {c : Code} {cells slots : Nat} {Q : State → Prop} (C : ZC p s m args meth c cX5_digest yX5_digest.cls 4 D cy L K N F G) (hRf : 6 ≤ R.frames) (hRl : 145 ≤ R.locals) (hRc : cells ≤ R.cells ∧ slots ≤ R.slots)  (v0 : Nat) (k0 : K v0 = 5) (I : zH) (n : Nat) (x : Int64 × Int32 × zH) (o : Int64 × Int32 × zH) (h : zIt (fun x => g_X5_digest_76 F G v0 x.1 x.2.1 x.2.2 I) n x = some o)
    (hx : ZW p l e R s m args below meth c 4 D cy L K N F G cells slots Q I o.2.2 97 [(0, .ref v0), (1, .long o.1), (3, .int o.2.1)] []) : ZW p l e R s m args below meth c 4 D cy L K N F G cells slots Q I x.2.2 76 [(0, .ref v0), (1, .long x.1), (3, .int x.2.1)] [] := by
  induction n generalizing x with
  | zero => cases h
  | succ n ih =>
    unfold zIt at h
    cases hb : g_X5_digest_76 F G v0 x.1 x.2.1 x.2.2 I with
    | none => rw [hb] at h; cases h
    | some q =>
      rw [hb] at h
      refine wb_X5_digest_76 l D cy hZ C hRf hRl hRc v0 k0 I x.1 x.2.1 x.2.2 q hb (fun y hy => ?_) (fun y hy => ?_)
      · subst hy; exact ih y h
      · subst hy; cases h; exact hx
set_option maxHeartbeats 4000000 in
set_option maxRecDepth 100000 in
theorem c_X5_digest (l : Launch) (D : va_G) (cy : Nat → ClassId) {L : List Nat} {K N : Nat → Nat} {F G : Nat → Nat → Nat} (hZ : ZL L K N F G) (h0 : Nat) (k_h0 : K h0 = 5) (I A : zH) {r : Int64} {B' : zH} (h : f_X5_digest F G h0 I A = some (r, B')) : ZMl l yX5_digest cX5_digest 4 (some .long) { frames := 6, cells := 0, slots := 0, locals := 145 } D cy L K N F G [.ref h0] I A r I B' := by
  refine ZMl.of (nL := 4) hZ rfl rfl (by decide) (Nat.le_of_ble_eq_true rfl) (fun p e s m args below meth c C hr => ?_)
  unfold f_X5_digest at h
  refine zr_lv (lv' := [(0, .ref h0)]) C [0] rfl ?_
  refine zr_ldc2 (v := 58109) C wd_597 dX5_digest_0 ?_
  refine zr_lstore_n (lv' := [(1, .long 58109), (0, .ref h0)]) C rfl (by decide) rfl dX5_digest_3 ?_
  refine zr_iconst (v := 0) C (by decide) dX5_digest_4 ?_
  refine zr_istore_n (lv' := [(3, .int 0), (1, .long 58109), (0, .ref h0)]) C rfl (by decide) rfl dX5_digest_5 ?_
  obtain ⟨j1, i2, h27, h⟩ := zb2_e h
  refine zr_lv (lv' := [(0, .ref h0), (1, .long 58109), (3, .int 0)]) C [2, 1, 0] rfl ?_
  refine w_X5_digest_6 l D cy hZ C (Nat.le_of_ble_eq_true rfl) (Nat.le_of_ble_eq_true rfl) ⟨Nat.le_refl _, Nat.le_refl _⟩ h0 k_h0 I A 2000 (58109, 0) (j1, i2) h27 ?_
  refine zr_iconst (v := 0) C (by decide) dX5_digest_28 ?_
  refine zr_istore_n (lv' := [(3, .int 0), (0, .ref h0), (1, .long j1)]) C rfl (by decide) rfl dX5_digest_29 ?_
  obtain ⟨j3, i4, h26, h⟩ := zb2_e h
  refine zr_lv (lv' := [(0, .ref h0), (1, .long j1), (3, .int 0)]) C [1, 2, 0] rfl ?_
  refine w_X5_digest_30 l D cy hZ C (Nat.le_of_ble_eq_true rfl) (Nat.le_of_ble_eq_true rfl) ⟨Nat.le_refl _, Nat.le_refl _⟩ h0 k_h0 I A 2000 (j1, 0) (j3, i4) h26 ?_
  refine zr_iconst (v := 0) C (by decide) dX5_digest_51 ?_
  refine zr_istore_n (lv' := [(3, .int 0), (0, .ref h0), (1, .long j3)]) C rfl (by decide) rfl dX5_digest_52 ?_
  obtain ⟨j5, i6, h25, h⟩ := zb2_e h
  refine zr_lv (lv' := [(0, .ref h0), (1, .long j3), (3, .int 0)]) C [1, 2, 0] rfl ?_
  refine w_X5_digest_53 l D cy hZ C (Nat.le_of_ble_eq_true rfl) (Nat.le_of_ble_eq_true rfl) ⟨Nat.le_refl _, Nat.le_refl _⟩ h0 k_h0 I A 2000 (j3, 0) (j5, i6) h25 ?_
  refine zr_iconst (v := 0) C (by decide) dX5_digest_74 ?_
  refine zr_istore_n (lv' := [(3, .int 0), (0, .ref h0), (1, .long j5)]) C rfl (by decide) rfl dX5_digest_75 ?_
  obtain ⟨j7, i8, A9, h24, h⟩ := zb3_e h
  refine zr_lv (lv' := [(0, .ref h0), (1, .long j5), (3, .int 0)]) C [1, 2, 0] rfl ?_
  refine w_X5_digest_76 l D cy hZ C (Nat.le_of_ble_eq_true rfl) (Nat.le_of_ble_eq_true rfl) ⟨Nat.le_refl _, Nat.le_refl _⟩ h0 k_h0 I  2000 (j5, 0, A) (j7, i8, A9) h24 ?_
  refine zr_lload_n C 1 rfl rfl dX5_digest_97 ?_
  refine zr_aload_n C 0 rfl rfl dX5_digest_98 ?_
  refine zr_bipush (v := 30) C (by decide) dX5_digest_99 ?_
  obtain ⟨r10, A11, h12, h⟩ := zb2_e h
  refine zr_callVi (n := 1) (As := [.int 30]) C (c_X5_boundWith l D cy hZ h0 30 k_h0 I A9 h12) wd_638 wd_639 wd_640 wd_1 wd_641 (by decide +kernel) ⟨(Nat.le_of_ble_eq_true rfl), (Nat.le_of_ble_eq_true rfl)⟩ rfl rfl ⟨Nat.le_refl _, Nat.le_refl _⟩ k_h0 (by decide) rfl rfl rfl (Nat.le_of_ble_eq_true rfl) dX5_digest_101 ?_
  obtain ⟨r14, h15, h⟩ := zb_e h
  refine zr_callSl (n := 2) (As := [.long j7, .int r10]) C (c_X5_fold l D cy hZ j7 r10 I A11 h15) wd_599 wd_600 wd_1 wd_601 (by decide +kernel) ⟨(Nat.le_of_ble_eq_true rfl), (Nat.le_of_ble_eq_true rfl)⟩ rfl rfl ⟨Nat.le_refl _, Nat.le_refl _⟩ rfl rfl (Nat.le_of_ble_eq_true rfl) dX5_digest_104 ?_
  refine zr_lstore_n (lv' := [(1, .long r14), (0, .ref h0), (3, .int i8)]) C rfl (by decide) rfl dX5_digest_107 ?_
  refine zr_lload_n C 0 rfl rfl dX5_digest_108 ?_
  refine zr_aload_n C 1 rfl rfl dX5_digest_109 ?_
  refine zr_bipush (v := 90) C (by decide) dX5_digest_110 ?_
  obtain ⟨r17, A18, h19, h⟩ := zb2_e h
  refine zr_callVi (n := 1) (As := [.int 90]) C (c_X5_boundWith l D cy hZ h0 90 k_h0 I A11 h19) wd_638 wd_639 wd_640 wd_1 wd_641 (by decide +kernel) ⟨(Nat.le_of_ble_eq_true rfl), (Nat.le_of_ble_eq_true rfl)⟩ rfl rfl ⟨Nat.le_refl _, Nat.le_refl _⟩ k_h0 (by decide) rfl rfl rfl (Nat.le_of_ble_eq_true rfl) dX5_digest_112 ?_
  obtain ⟨r21, h22, h⟩ := zb_e h
  refine zr_callSl (n := 2) (As := [.long r14, .int r17]) C (c_X5_fold l D cy hZ r14 r17 I A18 h22) wd_599 wd_600 wd_1 wd_601 (by decide +kernel) ⟨(Nat.le_of_ble_eq_true rfl), (Nat.le_of_ble_eq_true rfl)⟩ rfl rfl ⟨Nat.le_refl _, Nat.le_refl _⟩ rfl rfl (Nat.le_of_ble_eq_true rfl) dX5_digest_115 ?_
  cases zso h
  exact zr_lret C hr dX5_digest_118

def f_X5_token (F G : Nat → Nat → Nat) (h0 : Nat) (p0 : Int32) (I A : zH) : Option (Int32 × zH × zH) :=
  if p0 < 0 then (
    none
  ) else (
    if p0 < 30 then (
      if (I (F h0 0) 2) < 12 then (
        zb2 (f_X4_append F G (F h0 0) p0 I A) fun I4 A5 =>
        some (I4 (F h0 0) 2, I4, A5)
      ) else (
        none
      )
    ) else (
      none
    )
  )
set_option maxHeartbeats 4000000 in
set_option maxRecDepth 100000 in
theorem c_X5_token (l : Launch) (D : va_G) (cy : Nat → ClassId) {L : List Nat} {K N : Nat → Nat} {F G : Nat → Nat → Nat} (hZ : ZL L K N F G) (h0 : Nat) (p0 : Int32) (k_h0 : K h0 = 5) (I A : zH) {r : Int32} {J' : zH} {B' : zH} (h : f_X5_token F G h0 p0 I A = some (r, J', B')) : ZMi l yX5_token cX5_token 2 (some .int) { frames := 4, cells := 0, slots := 0, locals := 90 } D cy L K N F G [.ref h0, .int p0] I A r J' B' := by
  refine ZMi.of (nL := 2) hZ rfl rfl (by decide) (Nat.le_of_ble_eq_true rfl) (fun p e s m args below meth c C hr => ?_)
  unfold f_X5_token at h
  refine zr_lv (lv' := [(0, .ref h0), (1, .int p0)]) C [0, 1] rfl ?_
  refine zr_iload_n C 1 rfl rfl dX5_token_0 ?_
  refine zr_if_lt (tgt := 10) C (by decide) dX5_token_1 (fun hc1 => ?_) (fun hc1 => ?_)
  · have h := zif_t hc1 h
    exact zno h
  · have h := zif_f hc1 h
    refine zr_iload_n C 1 rfl rfl dX5_token_4 ?_
    refine zr_bipush (v := 30) C (by decide) dX5_token_5 ?_
    refine zr_icmp_lt (tgt := 20) C (by decide) dX5_token_7 (fun hc2 => ?_) (fun hc2 => ?_)
    · have h := zif_t hc2 h
      refine zr_aload_n C 0 rfl rfl dX5_token_20 ?_
      refine zr_get (ci := 5) (k := 0) (v := .ref (F h0 0)) C k_h0 (by decide) rfl zinX5 (by decide) wd_158 rfl dX5_token_21 ?_
      refine zr_get (ci := 4) (k := 2) (v := .int (I (F h0 0) 2)) C (zt50 hZ k_h0) (by decide) rfl zinX4 (by decide) wd_32 rfl dX5_token_24 ?_
      refine zr_bipush (v := 12) C (by decide) dX5_token_27 ?_
      refine zr_icmp_lt (tgt := 42) C (by decide) dX5_token_29 (fun hc3 => ?_) (fun hc3 => ?_)
      · have h := zif_t hc3 h
        refine zr_aload_n C 0 rfl rfl dX5_token_42 ?_
        refine zr_get (ci := 5) (k := 0) (v := .ref (F h0 0)) C k_h0 (by decide) rfl zinX5 (by decide) wd_158 rfl dX5_token_43 ?_
        refine zr_iload_n C 1 rfl rfl dX5_token_46 ?_
        obtain ⟨I4, A5, h6, h⟩ := zb2_e h
        refine zr_callVv (n := 1) (As := [.int p0]) C (c_X4_append l D cy hZ (F h0 0) p0 (zt50 hZ k_h0) I A h6) wd_554 wd_555 wd_556 wd_2 wd_557 (by decide +kernel) ⟨(Nat.le_of_ble_eq_true rfl), (Nat.le_of_ble_eq_true rfl)⟩ rfl rfl ⟨Nat.le_refl _, Nat.le_refl _⟩ (zt50 hZ k_h0) (by decide) rfl rfl rfl (Nat.le_of_ble_eq_true rfl) dX5_token_47 ?_
        refine zr_aload_n C 0 rfl rfl dX5_token_50 ?_
        refine zr_get (ci := 5) (k := 0) (v := .ref (F h0 0)) C k_h0 (by decide) rfl zinX5 (by decide) wd_158 rfl dX5_token_51 ?_
        refine zr_get (ci := 4) (k := 2) (v := .int (I4 (F h0 0) 2)) C (zt50 hZ k_h0) (by decide) rfl zinX4 (by decide) wd_32 rfl dX5_token_54 ?_
        cases zso h
        exact zr_iret C hr dX5_token_57
      · have h := zif_f hc3 h
        exact zno h
    · have h := zif_f hc2 h
      exact zno h

def f_X5_cut (F G : Nat → Nat → Nat) (h0 : Nat) (p0 : Int32) (I A : zH) : Option (Int32 × zH × zH) :=
  if p0 < 1 then (
    none
  ) else (
    if p0 ≤ 12 then (
      zb2 (f_X4_dropFirst F G (F h0 0) p0 I A) fun I3 A4 =>
      some (I3 (F h0 0) 2, I3, A4)
    ) else (
      none
    )
  )
set_option maxHeartbeats 4000000 in
set_option maxRecDepth 100000 in
theorem c_X5_cut (l : Launch) (D : va_G) (cy : Nat → ClassId) {L : List Nat} {K N : Nat → Nat} {F G : Nat → Nat → Nat} (hZ : ZL L K N F G) (h0 : Nat) (p0 : Int32) (k_h0 : K h0 = 5) (I A : zH) {r : Int32} {J' : zH} {B' : zH} (h : f_X5_cut F G h0 p0 I A = some (r, J', B')) : ZMi l yX5_cut cX5_cut 2 (some .int) { frames := 4, cells := 0, slots := 0, locals := 92 } D cy L K N F G [.ref h0, .int p0] I A r J' B' := by
  refine ZMi.of (nL := 2) hZ rfl rfl (by decide) (Nat.le_of_ble_eq_true rfl) (fun p e s m args below meth c C hr => ?_)
  unfold f_X5_cut at h
  refine zr_lv (lv' := [(0, .ref h0), (1, .int p0)]) C [0, 1] rfl ?_
  refine zr_iload_n C 1 rfl rfl dX5_cut_0 ?_
  refine zr_iconst (v := 1) C (by decide) dX5_cut_1 ?_
  refine zr_icmp_lt (tgt := 11) C (by decide) dX5_cut_2 (fun hc1 => ?_) (fun hc1 => ?_)
  · have h := zif_t hc1 h
    exact zno h
  · have h := zif_f hc1 h
    refine zr_iload_n C 1 rfl rfl dX5_cut_5 ?_
    refine zr_bipush (v := 12) C (by decide) dX5_cut_6 ?_
    refine zr_icmp_le (tgt := 21) C (by decide) dX5_cut_8 (fun hc2 => ?_) (fun hc2 => ?_)
    · have h := zif_t hc2 h
      refine zr_aload_n C 0 rfl rfl dX5_cut_21 ?_
      refine zr_get (ci := 5) (k := 0) (v := .ref (F h0 0)) C k_h0 (by decide) rfl zinX5 (by decide) wd_158 rfl dX5_cut_22 ?_
      refine zr_iload_n C 1 rfl rfl dX5_cut_25 ?_
      obtain ⟨I3, A4, h5, h⟩ := zb2_e h
      refine zr_callVv (n := 1) (As := [.int p0]) C (c_X4_dropFirst l D cy hZ (F h0 0) p0 (zt50 hZ k_h0) I A h5) wd_563 wd_564 wd_565 wd_2 wd_566 (by decide +kernel) ⟨(Nat.le_of_ble_eq_true rfl), (Nat.le_of_ble_eq_true rfl)⟩ rfl rfl ⟨Nat.le_refl _, Nat.le_refl _⟩ (zt50 hZ k_h0) (by decide) rfl rfl rfl (Nat.le_of_ble_eq_true rfl) dX5_cut_26 ?_
      refine zr_aload_n C 0 rfl rfl dX5_cut_29 ?_
      refine zr_get (ci := 5) (k := 0) (v := .ref (F h0 0)) C k_h0 (by decide) rfl zinX5 (by decide) wd_158 rfl dX5_cut_30 ?_
      refine zr_get (ci := 4) (k := 2) (v := .int (I3 (F h0 0) 2)) C (zt50 hZ k_h0) (by decide) rfl zinX4 (by decide) wd_32 rfl dX5_cut_33 ?_
      cases zso h
      exact zr_iret C hr dX5_cut_36
    · have h := zif_f hc2 h
      exact zno h

def f_X5_copy (F G : Nat → Nat → Nat) (h0 : Nat) (p0 : Int32) (p1 : Int32) (I A : zH) : Option (Int32 × zH × zH) :=
  zb (f_X5_needPiece F G h0 p0 I A) fun _ =>
  if p1 < 0 then (
    none
  ) else (
    if p1 < 10 then (
      zck (¬ (p0 < 0 ∨ 16 ≤ p0.toNatClampNeg)) <|
      zb2 (f_X4_become F G (F h0 0) (F (G (F h0 1) p0.toNatClampNeg) 0) p1 I A) fun I6 A7 =>
      some (I6 (F h0 0) 2, I6, A7)
    ) else (
      none
    )
  )
set_option maxHeartbeats 4000000 in
set_option maxRecDepth 100000 in
theorem c_X5_copy (l : Launch) (D : va_G) (cy : Nat → ClassId) {L : List Nat} {K N : Nat → Nat} {F G : Nat → Nat → Nat} (hZ : ZL L K N F G) (h0 : Nat) (p0 : Int32) (p1 : Int32) (k_h0 : K h0 = 5) (I A : zH) {r : Int32} {J' : zH} {B' : zH} (h : f_X5_copy F G h0 p0 p1 I A = some (r, J', B')) : ZMi l yX5_copy cX5_copy 3 (some .int) { frames := 4, cells := 0, slots := 0, locals := 93 } D cy L K N F G [.ref h0, .int p0, .int p1] I A r J' B' := by
  refine ZMi.of (nL := 3) hZ rfl rfl (by decide) (Nat.le_of_ble_eq_true rfl) (fun p e s m args below meth c C hr => ?_)
  unfold f_X5_copy at h
  refine zr_lv (lv' := [(0, .ref h0), (1, .int p0), (2, .int p1)]) C [0, 1, 2] rfl ?_
  refine zr_aload_n C 0 rfl rfl dX5_copy_0 ?_
  refine zr_iload_n C 1 rfl rfl dX5_copy_1 ?_
  obtain ⟨_, h1, h⟩ := zb_e h
  refine zr_callVv (n := 1) (As := [.int p0]) C (c_X5_needPiece l D cy hZ h0 p0 k_h0 I A h1) wd_368 wd_370 wp_10 wd_1 wd_371 (by decide +kernel) ⟨(Nat.le_of_ble_eq_true rfl), (Nat.le_of_ble_eq_true rfl)⟩ rfl rfl ⟨Nat.le_refl _, Nat.le_refl _⟩ k_h0 (by decide) rfl rfl rfl (Nat.le_of_ble_eq_true rfl) dX5_copy_2 ?_
  refine zr_iload_n C 2 rfl rfl dX5_copy_5 ?_
  refine zr_if_lt (tgt := 15) C (by decide) dX5_copy_6 (fun hc3 => ?_) (fun hc3 => ?_)
  · have h := zif_t hc3 h
    exact zno h
  · have h := zif_f hc3 h
    refine zr_iload_n C 2 rfl rfl dX5_copy_9 ?_
    refine zr_bipush (v := 10) C (by decide) dX5_copy_10 ?_
    refine zr_icmp_lt (tgt := 25) C (by decide) dX5_copy_12 (fun hc4 => ?_) (fun hc4 => ?_)
    · have h := zif_t hc4 h
      refine zr_aload_n C 0 rfl rfl dX5_copy_25 ?_
      refine zr_get (ci := 5) (k := 0) (v := .ref (F h0 0)) C k_h0 (by decide) rfl zinX5 (by decide) wd_158 rfl dX5_copy_26 ?_
      refine zr_aload_n C 0 rfl rfl dX5_copy_29 ?_
      refine zr_get (ci := 5) (k := 1) (v := .ref (F h0 1)) C k_h0 (by decide) rfl zinX5 (by decide) wd_159 rfl dX5_copy_30 ?_
      refine zr_iload_n C 1 rfl rfl dX5_copy_33 ?_
      obtain ⟨hc5, h⟩ := zck_e h
      refine zr_ald8 C (zt51 hZ k_h0).1 (zt51 hZ k_h0).2 hc5 dX5_copy_34 ?_
      refine zr_get (ci := 2) (k := 0) (v := .ref (F (G (F h0 1) p0.toNatClampNeg) 0)) C (zt8 hZ (zt51 hZ k_h0).1 (z_ix (zt51 hZ k_h0).2 hc5)) (by decide) rfl zinX2 (by decide) wd_80 rfl dX5_copy_35 ?_
      refine zr_iload_n C 2 rfl rfl dX5_copy_38 ?_
      obtain ⟨I6, A7, h8, h⟩ := zb2_e h
      refine zr_callVv (n := 2) (As := [.ref (F (G (F h0 1) p0.toNatClampNeg) 0), .int p1]) C (c_X4_become l D cy hZ (F h0 0) (F (G (F h0 1) p0.toNatClampNeg) 0) p1 (zt50 hZ k_h0) (zt2 hZ (zt8 hZ (zt51 hZ k_h0).1 (z_ix (zt51 hZ k_h0).2 hc5))) I A h8) wd_271 wd_272 wd_273 wd_2 wd_274 (by decide +kernel) ⟨(Nat.le_of_ble_eq_true rfl), (Nat.le_of_ble_eq_true rfl)⟩ rfl rfl ⟨Nat.le_refl _, Nat.le_refl _⟩ (zt50 hZ k_h0) (by decide) rfl rfl rfl (Nat.le_of_ble_eq_true rfl) dX5_copy_39 ?_
      refine zr_aload_n C 0 rfl rfl dX5_copy_42 ?_
      refine zr_get (ci := 5) (k := 0) (v := .ref (F h0 0)) C k_h0 (by decide) rfl zinX5 (by decide) wd_158 rfl dX5_copy_43 ?_
      refine zr_get (ci := 4) (k := 2) (v := .int (I6 (F h0 0) 2)) C (zt50 hZ k_h0) (by decide) rfl zinX4 (by decide) wd_32 rfl dX5_copy_46 ?_
      cases zso h
      exact zr_iret C hr dX5_copy_49
    · have h := zif_f hc4 h
      exact zno h

def g_X5_takeShares_12 (F G : Nat → Nat → Nat) (v0 : Nat) (v1 : Int32) (v2 : Nat) (v3 : Int32) (A : zH) (I : zH) : Option ((Int32 × zH) ⊕ (Int32 × zH)) :=
  if v1 < v3 then (
    some (.inr (v3, A))
  ) else (
    zck (¬ (v3 < 0 ∨ 16 ≤ v3.toNatClampNeg)) <|
    zb (f_X4_shareWith F G v2 (F (G (F v0 1) v3.toNatClampNeg) 0) I A) fun r3 =>
    zck (¬ (v1 < 0 ∨ 16 ≤ v1.toNatClampNeg)) <|
    zck (¬ (v3 < 0 ∨ 16 ≤ v3.toNatClampNeg)) <|
    zlet (up2 A (G (F v0 2) v1.toNatClampNeg) v3.toNatClampNeg r3) fun A8 =>
    zck (¬ (v3 < 0 ∨ 16 ≤ v3.toNatClampNeg)) <|
    zck (¬ (v1 < 0 ∨ 16 ≤ v1.toNatClampNeg)) <|
    zlet (up2 A8 (G (F v0 2) v3.toNatClampNeg) v1.toNatClampNeg r3) fun A11 =>
    some (.inl (v3 + 1, A11))
  )
def f_X5_takeShares (F G : Nat → Nat → Nat) (h0 : Nat) (p0 : Int32) (I A : zH) : Option (zH) :=
  zck (¬ (p0 < 0 ∨ 16 ≤ p0.toNatClampNeg)) <|
  zb2 (zIt (fun x => g_X5_takeShares_12 F G h0 p0 (F (G (F h0 1) p0.toNatClampNeg) 0) x.1 x.2 I ) 2000 (0, A)) fun i2 A3 =>
  some A3
set_option maxHeartbeats 4000000 in
set_option maxRecDepth 100000 in
theorem wb_X5_takeShares_12 (l : Launch) (D : va_G) (cy : Nat → ClassId) {L : List Nat} {K N : Nat → Nat} {F G : Nat → Nat → Nat} (hZ : ZL L K N F G) {p : Program} {e : Env} {R : Room} {s : State} {m : MethodId} {args : Array Value} {below : List Frame} {meth : Method} {c : Code} {cells slots : Nat} {Q : State → Prop} (C : ZC p s m args meth c cX5_takeShares yX5_takeShares.cls 5 D cy L K N F G) (hRf : 2 ≤ R.frames) (hRl : 46 ≤ R.locals) (hRc : cells ≤ R.cells ∧ slots ≤ R.slots)  (v0 : Nat) (v1 : Int32) (v2 : Nat) (k0 : K v0 = 5) (k2 : K v2 = 4) (I : zH) (v3 : Int32) (A : zH) (o : (Int32 × zH) ⊕ (Int32 × zH)) (h : g_X5_takeShares_12 F G v0 v1 v2 v3 A I = some o)
    (hg : ∀ y : Int32 × zH, o = .inl y → ZW p l e R s m args below meth c 5 D cy L K N F G cells slots Q I y.2 12 [(0, .ref v0), (1, .int v1), (2, .ref v2), (3, .int y.1)] [])
    (hx : ∀ y : Int32 × zH, o = .inr y → ZW p l e R s m args below meth c 5 D cy L K N F G cells slots Q I y.2 58 [(0, .ref v0), (1, .int v1), (2, .ref v2), (3, .int y.1)] []) : ZW p l e R s m args below meth c 5 D cy L K N F G cells slots Q I A 12 [(0, .ref v0), (1, .int v1), (2, .ref v2), (3, .int v3)] [] := by
  unfold g_X5_takeShares_12 at h
  refine zr_iload_n C 3 rfl rfl dX5_takeShares_12 ?_
  refine zr_iload_n C 1 rfl rfl dX5_takeShares_13 ?_
  refine zr_icmp_gt (tgt := 58) C (by decide) dX5_takeShares_14 (fun hc1 => ?_) (fun hc1 => ?_)
  · have h := zif_t hc1 h
    obtain rfl := zso h
    refine zr_lv (lv' := [(0, .ref v0), (1, .int v1), (2, .ref v2), (3, .int v3)]) C [0, 1, 2, 3] rfl ?_
    exact hx _ rfl
  · have h := zif_f hc1 h
    refine zr_aload_n C 2 rfl rfl dX5_takeShares_17 ?_
    refine zr_aload_n C 0 rfl rfl dX5_takeShares_18 ?_
    refine zr_get (ci := 5) (k := 1) (v := .ref (F v0 1)) C k0 (by decide) rfl zinX5 (by decide) wd_159 rfl dX5_takeShares_19 ?_
    refine zr_iload_n C 3 rfl rfl dX5_takeShares_22 ?_
    obtain ⟨hc2, h⟩ := zck_e h
    refine zr_ald8 C (zt51 hZ k0).1 (zt51 hZ k0).2 hc2 dX5_takeShares_23 ?_
    refine zr_get (ci := 2) (k := 0) (v := .ref (F (G (F v0 1) v3.toNatClampNeg) 0)) C (zt8 hZ (zt51 hZ k0).1 (z_ix (zt51 hZ k0).2 hc2)) (by decide) rfl zinX2 (by decide) wd_80 rfl dX5_takeShares_24 ?_
    obtain ⟨r3, h4, h⟩ := zb_e h
    refine zr_callVi (n := 1) (As := [.ref (F (G (F v0 1) v3.toNatClampNeg) 0)]) C (c_X4_shareWith l D cy hZ v2 (F (G (F v0 1) v3.toNatClampNeg) 0) k2 (zt2 hZ (zt8 hZ (zt51 hZ k0).1 (z_ix (zt51 hZ k0).2 hc2))) I A h4) wd_295 wd_296 wd_297 wd_2 wd_298 (by decide +kernel) ⟨(Nat.le_trans (Nat.le_of_ble_eq_true rfl) hRf), (Nat.le_trans (Nat.le_of_ble_eq_true rfl) hRl)⟩ rfl rfl hRc k2 (by decide) rfl rfl rfl (Nat.le_of_ble_eq_true rfl) dX5_takeShares_27 ?_
    refine zr_istore (lv' := [(4, .int r3), (0, .ref v0), (1, .int v1), (2, .ref v2), (3, .int v3)]) C (by decide) rfl dX5_takeShares_30 ?_
    refine zr_aload_n C 1 rfl rfl dX5_takeShares_32 ?_
    refine zr_get (ci := 5) (k := 2) (v := .ref (F v0 2)) C k0 (by decide) rfl zinX5 (by decide) wd_160 rfl dX5_takeShares_33 ?_
    refine zr_iload_n C 2 rfl rfl dX5_takeShares_36 ?_
    obtain ⟨hc6, h⟩ := zck_e h
    refine zr_ald10 C (zt52 hZ k0).1 (zt52 hZ k0).2 hc6 dX5_takeShares_37 ?_
    refine zr_iload_n C 4 rfl rfl dX5_takeShares_38 ?_
    refine zr_iload C 0 rfl dX5_takeShares_39 ?_
    obtain ⟨hc7, h⟩ := zck_e h
    refine zr_iast C (zt10 hZ (zt52 hZ k0).1 (z_ix (zt52 hZ k0).2 hc6)).1 (zt10 hZ (zt52 hZ k0).1 (z_ix (zt52 hZ k0).2 hc6)).2 hc7 dX5_takeShares_41 ?_
    obtain ⟨A8, eA8, h⟩ := zlet_e h
    rw [← eA8]
    refine zr_aload_n C 1 rfl rfl dX5_takeShares_42 ?_
    refine zr_get (ci := 5) (k := 2) (v := .ref (F v0 2)) C k0 (by decide) rfl zinX5 (by decide) wd_160 rfl dX5_takeShares_43 ?_
    refine zr_iload_n C 4 rfl rfl dX5_takeShares_46 ?_
    obtain ⟨hc9, h⟩ := zck_e h
    refine zr_ald10 C (zt52 hZ k0).1 (zt52 hZ k0).2 hc9 dX5_takeShares_47 ?_
    refine zr_iload_n C 2 rfl rfl dX5_takeShares_48 ?_
    refine zr_iload C 0 rfl dX5_takeShares_49 ?_
    obtain ⟨hc10, h⟩ := zck_e h
    refine zr_iast C (zt10 hZ (zt52 hZ k0).1 (z_ix (zt52 hZ k0).2 hc9)).1 (zt10 hZ (zt52 hZ k0).1 (z_ix (zt52 hZ k0).2 hc9)).2 hc10 dX5_takeShares_51 ?_
    obtain ⟨A11, eA11, h⟩ := zlet_e h
    rw [← eA11]
    refine zr_iinc (v := v3 + 1) (lv' := [(3, .int (v3 + 1)), (4, .int r3), (0, .ref v0), (1, .int v1), (2, .ref v2)]) C 4 rfl rfl (by decide) rfl dX5_takeShares_52 ?_
    refine zr_goto (tgt := 12) C (by decide) dX5_takeShares_55 ?_
    obtain rfl := zso h
    refine zr_lv (lv' := [(0, .ref v0), (1, .int v1), (2, .ref v2), (3, .int (v3 + 1))]) C [2, 3, 4, 0] rfl ?_
    exact hg _ rfl
set_option maxHeartbeats 4000000 in
set_option maxRecDepth 100000 in
theorem w_X5_takeShares_12 (l : Launch) (D : va_G) (cy : Nat → ClassId) {L : List Nat} {K N : Nat → Nat} {F G : Nat → Nat → Nat} (hZ : ZL L K N F G) {p : Program} {e : Env} {R : Room} {s : State} {m : MethodId} {args : Array Value} {below : List Frame} {meth : Method} {c : Code} {cells slots : Nat} {Q : State → Prop} (C : ZC p s m args meth c cX5_takeShares yX5_takeShares.cls 5 D cy L K N F G) (hRf : 2 ≤ R.frames) (hRl : 46 ≤ R.locals) (hRc : cells ≤ R.cells ∧ slots ≤ R.slots)  (v0 : Nat) (v1 : Int32) (v2 : Nat) (k0 : K v0 = 5) (k2 : K v2 = 4) (I : zH) (n : Nat) (x : Int32 × zH) (o : Int32 × zH) (h : zIt (fun x => g_X5_takeShares_12 F G v0 v1 v2 x.1 x.2 I) n x = some o)
    (hx : ZW p l e R s m args below meth c 5 D cy L K N F G cells slots Q I o.2 58 [(0, .ref v0), (1, .int v1), (2, .ref v2), (3, .int o.1)] []) : ZW p l e R s m args below meth c 5 D cy L K N F G cells slots Q I x.2 12 [(0, .ref v0), (1, .int v1), (2, .ref v2), (3, .int x.1)] [] := by
  induction n generalizing x with
  | zero => cases h
  | succ n ih =>
    unfold zIt at h
    cases hb : g_X5_takeShares_12 F G v0 v1 v2 x.1 x.2 I with
    | none => rw [hb] at h; cases h
    | some q =>
      rw [hb] at h
      refine wb_X5_takeShares_12 l D cy hZ C hRf hRl hRc v0 v1 v2 k0 k2 I x.1 x.2 q hb (fun y hy => ?_) (fun y hy => ?_)
      · subst hy; exact ih y h
      · subst hy; cases h; exact hx
set_option maxHeartbeats 4000000 in
set_option maxRecDepth 100000 in
theorem c_X5_takeShares (l : Launch) (D : va_G) (cy : Nat → ClassId) {L : List Nat} {K N : Nat → Nat} {F G : Nat → Nat → Nat} (hZ : ZL L K N F G) (h0 : Nat) (p0 : Int32) (k_h0 : K h0 = 5) (I A : zH) {B' : zH} (h : f_X5_takeShares F G h0 p0 I A = some B') : ZMv l yX5_takeShares cX5_takeShares 5 none { frames := 2, cells := 0, slots := 0, locals := 46 } D cy L K N F G [.ref h0, .int p0] I A I B' := by
  refine ZMv.of (nL := 5) hZ rfl rfl (by decide) (Nat.le_of_ble_eq_true rfl) (fun p e s m args below meth c C hr => ?_)
  unfold f_X5_takeShares at h
  refine zr_lv (lv' := [(0, .ref h0), (1, .int p0)]) C [0, 1] rfl ?_
  refine zr_aload_n C 0 rfl rfl dX5_takeShares_0 ?_
  refine zr_get (ci := 5) (k := 1) (v := .ref (F h0 1)) C k_h0 (by decide) rfl zinX5 (by decide) wd_159 rfl dX5_takeShares_1 ?_
  refine zr_iload_n C 1 rfl rfl dX5_takeShares_4 ?_
  obtain ⟨hc1, h⟩ := zck_e h
  refine zr_ald8 C (zt51 hZ k_h0).1 (zt51 hZ k_h0).2 hc1 dX5_takeShares_5 ?_
  refine zr_get (ci := 2) (k := 0) (v := .ref (F (G (F h0 1) p0.toNatClampNeg) 0)) C (zt8 hZ (zt51 hZ k_h0).1 (z_ix (zt51 hZ k_h0).2 hc1)) (by decide) rfl zinX2 (by decide) wd_80 rfl dX5_takeShares_6 ?_
  refine zr_astore_n (lv' := [(2, .ref (F (G (F h0 1) p0.toNatClampNeg) 0)), (0, .ref h0), (1, .int p0)]) C rfl (by decide) rfl dX5_takeShares_9 ?_
  refine zr_iconst (v := 0) C (by decide) dX5_takeShares_10 ?_
  refine zr_istore_n (lv' := [(3, .int 0), (2, .ref (F (G (F h0 1) p0.toNatClampNeg) 0)), (0, .ref h0), (1, .int p0)]) C rfl (by decide) rfl dX5_takeShares_11 ?_
  obtain ⟨i2, A3, h4, h⟩ := zb2_e h
  refine zr_lv (lv' := [(0, .ref h0), (1, .int p0), (2, .ref (F (G (F h0 1) p0.toNatClampNeg) 0)), (3, .int 0)]) C [2, 3, 1, 0] rfl ?_
  refine w_X5_takeShares_12 l D cy hZ C (Nat.le_of_ble_eq_true rfl) (Nat.le_of_ble_eq_true rfl) ⟨Nat.le_refl _, Nat.le_refl _⟩ h0 p0 (F (G (F h0 1) p0.toNatClampNeg) 0) k_h0 (zt2 hZ (zt8 hZ (zt51 hZ k_h0).1 (z_ix (zt51 hZ k_h0).2 hc1))) I  2000 (0, A) (i2, A3) h4 ?_
  obtain rfl := zso h
  exact zr_vret C hr dX5_takeShares_58

def g_X5_takeOrigins_14 (F G : Nat → Nat → Nat) (v0 : Nat) (v1 : Int32) (v2 : Int32) (v3 : Int32) (I : zH) (A : zH) : Option ((Int32 × Int32) ⊕ (Int32 × Int32)) :=
  if v1 ≤ v3 then (
    some (.inr (v2, v3))
  ) else (
    zck (¬ (v1 < 0 ∨ 16 ≤ v1.toNatClampNeg)) <|
    zck (¬ (v3 < 0 ∨ 16 ≤ v3.toNatClampNeg)) <|
    if (A (G (F v0 2) v1.toNatClampNeg) v3.toNatClampNeg) < (I v0 12) then (
      some (.inl (v2, v3 + 1))
    ) else (
      zck (¬ (v3 < 0 ∨ 16 ≤ v3.toNatClampNeg)) <|
      some (.inl (v2 ||| (((1 : Int32) <<< (v3 &&& 31)) ||| (A (F v0 3) v3.toNatClampNeg)), v3 + 1))
    )
  )
def g_X5_takeOrigins_2 (F G : Nat → Nat → Nat) (v0 : Nat) (v1 : Int32) (A : zH) (I : zH) : Option ((Int32 × zH) ⊕ (Int32 × zH)) :=
  if (I v0 8) ≤ v1 then (
    some (.inr (v1, A))
  ) else (
    zb2 (zIt (fun x => g_X5_takeOrigins_14 F G v0 v1 x.1 x.2 I A) 2000 (0, 0)) fun i2 i3 =>
    zck (¬ (v1 < 0 ∨ 16 ≤ v1.toNatClampNeg)) <|
    zlet (up2 A (F v0 3) v1.toNatClampNeg i2) fun A5 =>
    some (.inl (v1 + 1, A5))
  )
def f_X5_takeOrigins (F G : Nat → Nat → Nat) (h0 : Nat) (I A : zH) : Option (zH) :=
  zb2 (zIt (fun x => g_X5_takeOrigins_2 F G h0 x.1 x.2 I ) 2000 (0, A)) fun i1 A2 =>
  some A2
set_option maxHeartbeats 4000000 in
set_option maxRecDepth 100000 in
theorem wb_X5_takeOrigins_14 (l : Launch) (D : va_G) (cy : Nat → ClassId) {L : List Nat} {K N : Nat → Nat} {F G : Nat → Nat → Nat} (hZ : ZL L K N F G) {p : Program} {e : Env} {R : Room} {s : State} {m : MethodId} {args : Array Value} {below : List Frame} {meth : Method} {c : Code} {cells slots : Nat} {Q : State → Prop} (C : ZC p s m args meth c cX5_takeOrigins yX5_takeOrigins.cls 4 D cy L K N F G) (hRf : 0 ≤ R.frames) (hRl : 0 ≤ R.locals) (hRc : cells ≤ R.cells ∧ slots ≤ R.slots)  (v0 : Nat) (v1 : Int32) (k0 : K v0 = 5) (I : zH) (A : zH) (v2 : Int32) (v3 : Int32) (o : (Int32 × Int32) ⊕ (Int32 × Int32)) (h : g_X5_takeOrigins_14 F G v0 v1 v2 v3 I A = some o)
    (hg : ∀ y : Int32 × Int32, o = .inl y → ZW p l e R s m args below meth c 4 D cy L K N F G cells slots Q I A 14 [(0, .ref v0), (1, .int v1), (2, .int y.1), (3, .int y.2)] [])
    (hx : ∀ y : Int32 × Int32, o = .inr y → ZW p l e R s m args below meth c 4 D cy L K N F G cells slots Q I A 53 [(0, .ref v0), (1, .int v1), (2, .int y.1), (3, .int y.2)] []) : ZW p l e R s m args below meth c 4 D cy L K N F G cells slots Q I A 14 [(0, .ref v0), (1, .int v1), (2, .int v2), (3, .int v3)] [] := by
  unfold g_X5_takeOrigins_14 at h
  refine zr_iload_n C 3 rfl rfl dX5_takeOrigins_14 ?_
  refine zr_iload_n C 1 rfl rfl dX5_takeOrigins_15 ?_
  refine zr_icmp_ge (tgt := 53) C (by decide) dX5_takeOrigins_16 (fun hc1 => ?_) (fun hc1 => ?_)
  · have h := zif_t hc1 h
    obtain rfl := zso h
    refine zr_lv (lv' := [(0, .ref v0), (1, .int v1), (2, .int v2), (3, .int v3)]) C [0, 1, 2, 3] rfl ?_
    exact hx _ rfl
  · have h := zif_f hc1 h
    refine zr_aload_n C 0 rfl rfl dX5_takeOrigins_19 ?_
    refine zr_get (ci := 5) (k := 2) (v := .ref (F v0 2)) C k0 (by decide) rfl zinX5 (by decide) wd_160 rfl dX5_takeOrigins_20 ?_
    refine zr_iload_n C 1 rfl rfl dX5_takeOrigins_23 ?_
    obtain ⟨hc2, h⟩ := zck_e h
    refine zr_ald10 C (zt52 hZ k0).1 (zt52 hZ k0).2 hc2 dX5_takeOrigins_24 ?_
    refine zr_iload_n C 3 rfl rfl dX5_takeOrigins_25 ?_
    obtain ⟨hc3, h⟩ := zck_e h
    refine zr_iald C (zt10 hZ (zt52 hZ k0).1 (z_ix (zt52 hZ k0).2 hc2)).1 (zt10 hZ (zt52 hZ k0).1 (z_ix (zt52 hZ k0).2 hc2)).2 hc3 dX5_takeOrigins_26 ?_
    refine zr_aload_n C 0 rfl rfl dX5_takeOrigins_27 ?_
    refine zr_get (ci := 5) (k := 12) (v := .int (I v0 12)) C k0 (by decide) rfl zinX5 (by decide) wd_170 rfl dX5_takeOrigins_28 ?_
    refine zr_icmp_lt (tgt := 47) C (by decide) dX5_takeOrigins_31 (fun hc4 => ?_) (fun hc4 => ?_)
    · have h := zif_t hc4 h
      refine zr_iinc (v := v3 + 1) (lv' := [(3, .int (v3 + 1)), (0, .ref v0), (1, .int v1), (2, .int v2)]) C 3 rfl rfl (by decide) rfl dX5_takeOrigins_47 ?_
      refine zr_goto (tgt := 14) C (by decide) dX5_takeOrigins_50 ?_
      obtain rfl := zso h
      refine zr_lv (lv' := [(0, .ref v0), (1, .int v1), (2, .int v2), (3, .int (v3 + 1))]) C [1, 2, 3, 0] rfl ?_
      exact hg _ rfl
    · have h := zif_f hc4 h
      refine zr_iload_n C 2 rfl rfl dX5_takeOrigins_34 ?_
      refine zr_iconst (v := 1) C (by decide) dX5_takeOrigins_35 ?_
      refine zr_iload_n C 3 rfl rfl dX5_takeOrigins_36 ?_
      refine zr_ishl C dX5_takeOrigins_37 ?_
      refine zr_aload_n C 0 rfl rfl dX5_takeOrigins_38 ?_
      refine zr_get (ci := 5) (k := 3) (v := .ref (F v0 3)) C k0 (by decide) rfl zinX5 (by decide) wd_161 rfl dX5_takeOrigins_39 ?_
      refine zr_iload_n C 3 rfl rfl dX5_takeOrigins_42 ?_
      obtain ⟨hc5, h⟩ := zck_e h
      refine zr_iald C (zt53 hZ k0).1 (zt53 hZ k0).2 hc5 dX5_takeOrigins_43 ?_
      refine zr_ior C dX5_takeOrigins_44 ?_
      refine zr_ior C dX5_takeOrigins_45 ?_
      refine zr_istore_n (lv' := [(2, .int (v2 ||| (((1 : Int32) <<< (v3 &&& 31)) ||| (A (F v0 3) v3.toNatClampNeg)))), (0, .ref v0), (1, .int v1), (3, .int v3)]) C rfl (by decide) rfl dX5_takeOrigins_46 ?_
      refine zr_iinc (v := v3 + 1) (lv' := [(3, .int (v3 + 1)), (2, .int (v2 ||| (((1 : Int32) <<< (v3 &&& 31)) ||| (A (F v0 3) v3.toNatClampNeg)))), (0, .ref v0), (1, .int v1)]) C 3 rfl rfl (by decide) rfl dX5_takeOrigins_47 ?_
      refine zr_goto (tgt := 14) C (by decide) dX5_takeOrigins_50 ?_
      obtain rfl := zso h
      refine zr_lv (lv' := [(0, .ref v0), (1, .int v1), (2, .int (v2 ||| (((1 : Int32) <<< (v3 &&& 31)) ||| (A (F v0 3) v3.toNatClampNeg)))), (3, .int (v3 + 1))]) C [2, 3, 1, 0] rfl ?_
      exact hg _ rfl
set_option maxHeartbeats 4000000 in
set_option maxRecDepth 100000 in
theorem w_X5_takeOrigins_14 (l : Launch) (D : va_G) (cy : Nat → ClassId) {L : List Nat} {K N : Nat → Nat} {F G : Nat → Nat → Nat} (hZ : ZL L K N F G) {p : Program} {e : Env} {R : Room} {s : State} {m : MethodId} {args : Array Value} {below : List Frame} {meth : Method} {c : Code} {cells slots : Nat} {Q : State → Prop} (C : ZC p s m args meth c cX5_takeOrigins yX5_takeOrigins.cls 4 D cy L K N F G) (hRf : 0 ≤ R.frames) (hRl : 0 ≤ R.locals) (hRc : cells ≤ R.cells ∧ slots ≤ R.slots)  (v0 : Nat) (v1 : Int32) (k0 : K v0 = 5) (I : zH) (A : zH) (n : Nat) (x : Int32 × Int32) (o : Int32 × Int32) (h : zIt (fun x => g_X5_takeOrigins_14 F G v0 v1 x.1 x.2 I A) n x = some o)
    (hx : ZW p l e R s m args below meth c 4 D cy L K N F G cells slots Q I A 53 [(0, .ref v0), (1, .int v1), (2, .int o.1), (3, .int o.2)] []) : ZW p l e R s m args below meth c 4 D cy L K N F G cells slots Q I A 14 [(0, .ref v0), (1, .int v1), (2, .int x.1), (3, .int x.2)] [] := by
  induction n generalizing x with
  | zero => cases h
  | succ n ih =>
    unfold zIt at h
    cases hb : g_X5_takeOrigins_14 F G v0 v1 x.1 x.2 I A with
    | none => rw [hb] at h; cases h
    | some q =>
      rw [hb] at h
      refine wb_X5_takeOrigins_14 l D cy hZ C hRf hRl hRc v0 v1 k0 I A x.1 x.2 q hb (fun y hy => ?_) (fun y hy => ?_)
      · subst hy; exact ih y h
      · subst hy; cases h; exact hx
set_option maxHeartbeats 4000000 in
set_option maxRecDepth 100000 in
theorem wb_X5_takeOrigins_2 (l : Launch) (D : va_G) (cy : Nat → ClassId) {L : List Nat} {K N : Nat → Nat} {F G : Nat → Nat → Nat} (hZ : ZL L K N F G) {p : Program} {e : Env} {R : Room} {s : State} {m : MethodId} {args : Array Value} {below : List Frame} {meth : Method} {c : Code} {cells slots : Nat} {Q : State → Prop} (C : ZC p s m args meth c cX5_takeOrigins yX5_takeOrigins.cls 4 D cy L K N F G) (hRf : 0 ≤ R.frames) (hRl : 0 ≤ R.locals) (hRc : cells ≤ R.cells ∧ slots ≤ R.slots)  (v0 : Nat) (k0 : K v0 = 5) (I : zH) (v1 : Int32) (A : zH) (o : (Int32 × zH) ⊕ (Int32 × zH)) (h : g_X5_takeOrigins_2 F G v0 v1 A I = some o)
    (hg : ∀ y : Int32 × zH, o = .inl y → ZW p l e R s m args below meth c 4 D cy L K N F G cells slots Q I y.2 2 [(0, .ref v0), (1, .int y.1)] [])
    (hx : ∀ y : Int32 × zH, o = .inr y → ZW p l e R s m args below meth c 4 D cy L K N F G cells slots Q I y.2 66 [(0, .ref v0), (1, .int y.1)] []) : ZW p l e R s m args below meth c 4 D cy L K N F G cells slots Q I A 2 [(0, .ref v0), (1, .int v1)] [] := by
  unfold g_X5_takeOrigins_2 at h
  refine zr_iload_n C 1 rfl rfl dX5_takeOrigins_2 ?_
  refine zr_aload_n C 0 rfl rfl dX5_takeOrigins_3 ?_
  refine zr_get (ci := 5) (k := 8) (v := .int (I v0 8)) C k0 (by decide) rfl zinX5 (by decide) wd_166 rfl dX5_takeOrigins_4 ?_
  refine zr_icmp_ge (tgt := 66) C (by decide) dX5_takeOrigins_7 (fun hc1 => ?_) (fun hc1 => ?_)
  · have h := zif_t hc1 h
    obtain rfl := zso h
    refine zr_lv (lv' := [(0, .ref v0), (1, .int v1)]) C [0, 1] rfl ?_
    exact hx _ rfl
  · have h := zif_f hc1 h
    refine zr_iconst (v := 0) C (by decide) dX5_takeOrigins_10 ?_
    refine zr_istore_n (lv' := [(2, .int 0), (0, .ref v0), (1, .int v1)]) C rfl (by decide) rfl dX5_takeOrigins_11 ?_
    refine zr_iconst (v := 0) C (by decide) dX5_takeOrigins_12 ?_
    refine zr_istore_n (lv' := [(3, .int 0), (2, .int 0), (0, .ref v0), (1, .int v1)]) C rfl (by decide) rfl dX5_takeOrigins_13 ?_
    obtain ⟨i2, i3, h6, h⟩ := zb2_e h
    refine zr_lv (lv' := [(0, .ref v0), (1, .int v1), (2, .int 0), (3, .int 0)]) C [2, 3, 1, 0] rfl ?_
    refine w_X5_takeOrigins_14 l D cy hZ C (Nat.le_trans (Nat.le_of_ble_eq_true rfl) hRf) (Nat.le_trans (Nat.le_of_ble_eq_true rfl) hRl) hRc v0 v1 k0 I A 2000 (0, 0) (i2, i3) h6 ?_
    refine zr_aload_n C 0 rfl rfl dX5_takeOrigins_53 ?_
    refine zr_get (ci := 5) (k := 3) (v := .ref (F v0 3)) C k0 (by decide) rfl zinX5 (by decide) wd_161 rfl dX5_takeOrigins_54 ?_
    refine zr_iload_n C 1 rfl rfl dX5_takeOrigins_57 ?_
    refine zr_iload_n C 2 rfl rfl dX5_takeOrigins_58 ?_
    obtain ⟨hc4, h⟩ := zck_e h
    refine zr_iast C (zt53 hZ k0).1 (zt53 hZ k0).2 hc4 dX5_takeOrigins_59 ?_
    obtain ⟨A5, eA5, h⟩ := zlet_e h
    rw [← eA5]
    refine zr_iinc (v := v1 + 1) (lv' := [(1, .int (v1 + 1)), (0, .ref v0), (2, .int i2), (3, .int i3)]) C 1 rfl rfl (by decide) rfl dX5_takeOrigins_60 ?_
    refine zr_goto (tgt := 2) C (by decide) dX5_takeOrigins_63 ?_
    obtain rfl := zso h
    refine zr_lv (lv' := [(0, .ref v0), (1, .int (v1 + 1))]) C [1, 0] rfl ?_
    exact hg _ rfl
set_option maxHeartbeats 4000000 in
set_option maxRecDepth 100000 in
theorem w_X5_takeOrigins_2 (l : Launch) (D : va_G) (cy : Nat → ClassId) {L : List Nat} {K N : Nat → Nat} {F G : Nat → Nat → Nat} (hZ : ZL L K N F G) {p : Program} {e : Env} {R : Room} {s : State} {m : MethodId} {args : Array Value} {below : List Frame} {meth : Method} {c : Code} {cells slots : Nat} {Q : State → Prop} (C : ZC p s m args meth c cX5_takeOrigins yX5_takeOrigins.cls 4 D cy L K N F G) (hRf : 0 ≤ R.frames) (hRl : 0 ≤ R.locals) (hRc : cells ≤ R.cells ∧ slots ≤ R.slots)  (v0 : Nat) (k0 : K v0 = 5) (I : zH) (n : Nat) (x : Int32 × zH) (o : Int32 × zH) (h : zIt (fun x => g_X5_takeOrigins_2 F G v0 x.1 x.2 I) n x = some o)
    (hx : ZW p l e R s m args below meth c 4 D cy L K N F G cells slots Q I o.2 66 [(0, .ref v0), (1, .int o.1)] []) : ZW p l e R s m args below meth c 4 D cy L K N F G cells slots Q I x.2 2 [(0, .ref v0), (1, .int x.1)] [] := by
  induction n generalizing x with
  | zero => cases h
  | succ n ih =>
    unfold zIt at h
    cases hb : g_X5_takeOrigins_2 F G v0 x.1 x.2 I with
    | none => rw [hb] at h; cases h
    | some q =>
      rw [hb] at h
      refine wb_X5_takeOrigins_2 l D cy hZ C hRf hRl hRc v0 k0 I x.1 x.2 q hb (fun y hy => ?_) (fun y hy => ?_)
      · subst hy; exact ih y h
      · subst hy; cases h; exact hx
set_option maxHeartbeats 4000000 in
set_option maxRecDepth 100000 in
theorem c_X5_takeOrigins (l : Launch) (D : va_G) (cy : Nat → ClassId) {L : List Nat} {K N : Nat → Nat} {F G : Nat → Nat → Nat} (hZ : ZL L K N F G) (h0 : Nat) (k_h0 : K h0 = 5) (I A : zH) {B' : zH} (h : f_X5_takeOrigins F G h0 I A = some B') : ZMv l yX5_takeOrigins cX5_takeOrigins 4 none { frames := 0, cells := 0, slots := 0, locals := 0 } D cy L K N F G [.ref h0] I A I B' := by
  refine ZMv.of (nL := 4) hZ rfl rfl (by decide) (Nat.le_of_ble_eq_true rfl) (fun p e s m args below meth c C hr => ?_)
  unfold f_X5_takeOrigins at h
  refine zr_lv (lv' := [(0, .ref h0)]) C [0] rfl ?_
  refine zr_iconst (v := 0) C (by decide) dX5_takeOrigins_0 ?_
  refine zr_istore_n (lv' := [(1, .int 0), (0, .ref h0)]) C rfl (by decide) rfl dX5_takeOrigins_1 ?_
  obtain ⟨i1, A2, h3, h⟩ := zb2_e h
  refine zr_lv (lv' := [(0, .ref h0), (1, .int 0)]) C [1, 0] rfl ?_
  refine w_X5_takeOrigins_2 l D cy hZ C (Nat.le_of_ble_eq_true rfl) (Nat.le_of_ble_eq_true rfl) ⟨Nat.le_refl _, Nat.le_refl _⟩ h0 k_h0 I  2000 (0, A) (i1, A2) h3 ?_
  obtain rfl := zso h
  exact zr_vret C hr dX5_takeOrigins_66
end
section
def g_X5_settle_22 (F G : Nat → Nat → Nat) (v0 : Nat) (v1 : Int32) (v2 : Int32) (I : zH) (A : zH) : Option ((Int32 × Int32 × zH) ⊕ (Int32 × Int32 × zH)) :=
  if (I v0 10) ≤ v2 then (
    some (.inr (v1, v2, I))
  ) else (
    zck (¬ (v2 < 0 ∨ 5 ≤ v2.toNatClampNeg)) <|
    zb (f_X3_isRecalledUnder F G (G (F v0 5) v2.toNatClampNeg) (F v0 6) I A) fun r3 =>
    if r3 = 0 then (
      some (.inl (v1, v2 + 1, I))
    ) else (
      zck (¬ (v2 < 0 ∨ 5 ≤ v2.toNatClampNeg)) <|
      zlet (up2 I (G (F v0 5) v2.toNatClampNeg) 6 2) fun I8 =>
      zck (¬ (v2 < 0 ∨ 5 ≤ v2.toNatClampNeg)) <|
      zlet (up2 I8 (G (F v0 5) v2.toNatClampNeg) 7 ((I8 (G (F v0 5) v2.toNatClampNeg) 7) + 1)) fun I10 =>
      some (.inl (v1 + 1, v2 + 1, I10))
    )
  )
def f_X5_settle (F G : Nat → Nat → Nat) (h0 : Nat) (I A : zH) : Option (Int32 × zH × zH) :=
  zb (f_X5_takeOrigins F G h0 I A) fun A1 =>
  zb (f_X5_bind F G h0 (F h0 6) (I h0 12) (-1) (-1) I A1) fun A4 =>
  zb3 (zIt (fun x => g_X5_settle_22 F G h0 x.1 x.2.1 x.2.2 A4) 2000 (0, 0, I)) fun i7 i8 I9 =>
  some (i7, I9, A4)
set_option maxHeartbeats 4000000 in
set_option maxRecDepth 100000 in
theorem wb_X5_settle_22 (l : Launch) (D : va_G) (cy : Nat → ClassId) {L : List Nat} {K N : Nat → Nat} {F G : Nat → Nat → Nat} (hZ : ZL L K N F G) {p : Program} {e : Env} {R : Room} {s : State} {m : MethodId} {args : Array Value} {below : List Frame} {meth : Method} {c : Code} {cells slots : Nat} {Q : State → Prop} (C : ZC p s m args meth c cX5_settle yX5_settle.cls 3 D cy L K N F G) (hRf : 5 ≤ R.frames) (hRl : 116 ≤ R.locals) (hRc : cells ≤ R.cells ∧ slots ≤ R.slots)  (v0 : Nat) (k0 : K v0 = 5) (A : zH) (v1 : Int32) (v2 : Int32) (I : zH) (o : (Int32 × Int32 × zH) ⊕ (Int32 × Int32 × zH)) (h : g_X5_settle_22 F G v0 v1 v2 I A = some o)
    (hg : ∀ y : Int32 × Int32 × zH, o = .inl y → ZW p l e R s m args below meth c 3 D cy L K N F G cells slots Q y.2.2 A 22 [(0, .ref v0), (1, .int y.1), (2, .int y.2.1)] [])
    (hx : ∀ y : Int32 × Int32 × zH, o = .inr y → ZW p l e R s m args below meth c 3 D cy L K N F G cells slots Q y.2.2 A 80 [(0, .ref v0), (1, .int y.1), (2, .int y.2.1)] []) : ZW p l e R s m args below meth c 3 D cy L K N F G cells slots Q I A 22 [(0, .ref v0), (1, .int v1), (2, .int v2)] [] := by
  unfold g_X5_settle_22 at h
  refine zr_iload_n C 2 rfl rfl dX5_settle_22 ?_
  refine zr_aload_n C 0 rfl rfl dX5_settle_23 ?_
  refine zr_get (ci := 5) (k := 10) (v := .int (I v0 10)) C k0 (by decide) rfl zinX5 (by decide) wd_168 rfl dX5_settle_24 ?_
  refine zr_icmp_ge (tgt := 80) C (by decide) dX5_settle_27 (fun hc1 => ?_) (fun hc1 => ?_)
  · have h := zif_t hc1 h
    obtain rfl := zso h
    refine zr_lv (lv' := [(0, .ref v0), (1, .int v1), (2, .int v2)]) C [0, 1, 2] rfl ?_
    exact hx _ rfl
  · have h := zif_f hc1 h
    refine zr_aload_n C 0 rfl rfl dX5_settle_30 ?_
    refine zr_get (ci := 5) (k := 5) (v := .ref (F v0 5)) C k0 (by decide) rfl zinX5 (by decide) wd_163 rfl dX5_settle_31 ?_
    refine zr_iload_n C 2 rfl rfl dX5_settle_34 ?_
    obtain ⟨hc2, h⟩ := zck_e h
    refine zr_ald9 C (zt55 hZ k0).1 (zt55 hZ k0).2 hc2 dX5_settle_35 ?_
    refine zr_aload_n C 0 rfl rfl dX5_settle_36 ?_
    refine zr_get (ci := 5) (k := 6) (v := .ref (F v0 6)) C k0 (by decide) rfl zinX5 (by decide) wd_164 rfl dX5_settle_37 ?_
    obtain ⟨r3, h4, h⟩ := zb_e h
    refine zr_callVi (n := 1) (As := [.ref (F v0 6)]) C (c_X3_isRecalledUnder l D cy hZ (G (F v0 5) v2.toNatClampNeg) (F v0 6) (zt9 hZ (zt55 hZ k0).1 (z_ix (zt55 hZ k0).2 hc2)) (zt56 hZ k0) I A h4) wd_325 wd_326 wd_327 wd_6 wd_328 (by decide +kernel) ⟨(Nat.le_trans (Nat.le_of_ble_eq_true rfl) hRf), (Nat.le_trans (Nat.le_of_ble_eq_true rfl) hRl)⟩ rfl rfl hRc (zt9 hZ (zt55 hZ k0).1 (z_ix (zt55 hZ k0).2 hc2)) (by decide) rfl rfl rfl (Nat.le_of_ble_eq_true rfl) dX5_settle_40 ?_
    refine zr_if_eq (tgt := 74) C (by decide) dX5_settle_43 (fun hc6 => ?_) (fun hc6 => ?_)
    · have h := zif_t hc6 h
      refine zr_iinc (v := v2 + 1) (lv' := [(2, .int (v2 + 1)), (0, .ref v0), (1, .int v1)]) C 2 rfl rfl (by decide) rfl dX5_settle_74 ?_
      refine zr_goto (tgt := 22) C (by decide) dX5_settle_77 ?_
      obtain rfl := zso h
      refine zr_lv (lv' := [(0, .ref v0), (1, .int v1), (2, .int (v2 + 1))]) C [1, 2, 0] rfl ?_
      exact hg _ rfl
    · have h := zif_f hc6 h
      refine zr_aload_n C 0 rfl rfl dX5_settle_46 ?_
      refine zr_get (ci := 5) (k := 5) (v := .ref (F v0 5)) C k0 (by decide) rfl zinX5 (by decide) wd_163 rfl dX5_settle_47 ?_
      refine zr_iload_n C 2 rfl rfl dX5_settle_50 ?_
      obtain ⟨hc7, h⟩ := zck_e h
      refine zr_ald9 C (zt55 hZ k0).1 (zt55 hZ k0).2 hc7 dX5_settle_51 ?_
      refine zr_iconst (v := 2) C (by decide) dX5_settle_52 ?_
      refine zr_put (ci := 3) (k := 6) (ty := .int) C tyX3 (zt9 hZ (zt55 hZ k0).1 (z_ix (zt55 hZ k0).2 hc7)) (by decide) rfl zinX3 tyX3_ok nmX3 (by decide) wd_138 rfl (by decide +kernel) rfl rfl (Nat.le_of_ble_eq_true rfl) (zset_3_6 F _ _ _) dX5_settle_53 ?_
      obtain ⟨I8, eI8, h⟩ := zlet_e h
      rw [← eI8]
      refine zr_aload_n C 0 rfl rfl dX5_settle_56 ?_
      refine zr_get (ci := 5) (k := 5) (v := .ref (F v0 5)) C k0 (by decide) rfl zinX5 (by decide) wd_163 rfl dX5_settle_57 ?_
      refine zr_iload_n C 2 rfl rfl dX5_settle_60 ?_
      obtain ⟨hc9, h⟩ := zck_e h
      refine zr_ald9 C (zt55 hZ k0).1 (zt55 hZ k0).2 hc9 dX5_settle_61 ?_
      refine zr_dup C rfl dX5_settle_62 ?_
      refine zr_get (ci := 3) (k := 7) (v := .int (I8 (G (F v0 5) v2.toNatClampNeg) 7)) C (zt9 hZ (zt55 hZ k0).1 (z_ix (zt55 hZ k0).2 hc9)) (by decide) rfl zinX3 (by decide) wd_140 rfl dX5_settle_63 ?_
      refine zr_iconst (v := 1) C (by decide) dX5_settle_66 ?_
      refine zr_iadd C dX5_settle_67 ?_
      refine zr_put (ci := 3) (k := 7) (ty := .int) C tyX3 (zt9 hZ (zt55 hZ k0).1 (z_ix (zt55 hZ k0).2 hc9)) (by decide) rfl zinX3 tyX3_ok nmX3 (by decide) wd_140 rfl (by decide +kernel) rfl rfl (Nat.le_of_ble_eq_true rfl) (zset_3_7 F _ _ _) dX5_settle_68 ?_
      obtain ⟨I10, eI10, h⟩ := zlet_e h
      rw [← eI10]
      refine zr_iinc (v := v1 + 1) (lv' := [(1, .int (v1 + 1)), (0, .ref v0), (2, .int v2)]) C 1 rfl rfl (by decide) rfl dX5_settle_71 ?_
      refine zr_iinc (v := v2 + 1) (lv' := [(2, .int (v2 + 1)), (1, .int (v1 + 1)), (0, .ref v0)]) C 2 rfl rfl (by decide) rfl dX5_settle_74 ?_
      refine zr_goto (tgt := 22) C (by decide) dX5_settle_77 ?_
      obtain rfl := zso h
      refine zr_lv (lv' := [(0, .ref v0), (1, .int (v1 + 1)), (2, .int (v2 + 1))]) C [2, 1, 0] rfl ?_
      exact hg _ rfl
set_option maxHeartbeats 4000000 in
set_option maxRecDepth 100000 in
theorem w_X5_settle_22 (l : Launch) (D : va_G) (cy : Nat → ClassId) {L : List Nat} {K N : Nat → Nat} {F G : Nat → Nat → Nat} (hZ : ZL L K N F G) {p : Program} {e : Env} {R : Room} {s : State} {m : MethodId} {args : Array Value} {below : List Frame} {meth : Method} {c : Code} {cells slots : Nat} {Q : State → Prop} (C : ZC p s m args meth c cX5_settle yX5_settle.cls 3 D cy L K N F G) (hRf : 5 ≤ R.frames) (hRl : 116 ≤ R.locals) (hRc : cells ≤ R.cells ∧ slots ≤ R.slots)  (v0 : Nat) (k0 : K v0 = 5) (A : zH) (n : Nat) (x : Int32 × Int32 × zH) (o : Int32 × Int32 × zH) (h : zIt (fun x => g_X5_settle_22 F G v0 x.1 x.2.1 x.2.2 A) n x = some o)
    (hx : ZW p l e R s m args below meth c 3 D cy L K N F G cells slots Q o.2.2 A 80 [(0, .ref v0), (1, .int o.1), (2, .int o.2.1)] []) : ZW p l e R s m args below meth c 3 D cy L K N F G cells slots Q x.2.2 A 22 [(0, .ref v0), (1, .int x.1), (2, .int x.2.1)] [] := by
  induction n generalizing x with
  | zero => cases h
  | succ n ih =>
    unfold zIt at h
    cases hb : g_X5_settle_22 F G v0 x.1 x.2.1 x.2.2 A with
    | none => rw [hb] at h; cases h
    | some q =>
      rw [hb] at h
      refine wb_X5_settle_22 l D cy hZ C hRf hRl hRc v0 k0 A x.1 x.2.1 x.2.2 q hb (fun y hy => ?_) (fun y hy => ?_)
      · subst hy; exact ih y h
      · subst hy; cases h; exact hx
set_option maxHeartbeats 4000000 in
set_option maxRecDepth 100000 in
theorem c_X5_settle (l : Launch) (D : va_G) (cy : Nat → ClassId) {L : List Nat} {K N : Nat → Nat} {F G : Nat → Nat → Nat} (hZ : ZL L K N F G) (h0 : Nat) (k_h0 : K h0 = 5) (I A : zH) {r : Int32} {J' : zH} {B' : zH} (h : f_X5_settle F G h0 I A = some (r, J', B')) : ZMi l yX5_settle cX5_settle 3 (some .int) { frames := 5, cells := 0, slots := 0, locals := 116 } D cy L K N F G [.ref h0] I A r J' B' := by
  refine ZMi.of (nL := 3) hZ rfl rfl (by decide) (Nat.le_of_ble_eq_true rfl) (fun p e s m args below meth c C hr => ?_)
  unfold f_X5_settle at h
  refine zr_lv (lv' := [(0, .ref h0)]) C [0] rfl ?_
  refine zr_aload_n C 0 rfl rfl dX5_settle_0 ?_
  obtain ⟨A1, h2, h⟩ := zb_e h
  refine zr_callVv (n := 0) (As := []) C (c_X5_takeOrigins l D cy hZ h0 k_h0 I A h2) wd_306 wd_308 wp_7 wd_1 wd_309 (by decide +kernel) ⟨(Nat.le_of_ble_eq_true rfl), (Nat.le_of_ble_eq_true rfl)⟩ rfl rfl ⟨Nat.le_refl _, Nat.le_refl _⟩ k_h0 (by decide) rfl rfl rfl (Nat.le_of_ble_eq_true rfl) dX5_settle_1 ?_
  refine zr_aload_n C 0 rfl rfl dX5_settle_4 ?_
  refine zr_aload_n C 0 rfl rfl dX5_settle_5 ?_
  refine zr_get (ci := 5) (k := 6) (v := .ref (F h0 6)) C k_h0 (by decide) rfl zinX5 (by decide) wd_164 rfl dX5_settle_6 ?_
  refine zr_aload_n C 0 rfl rfl dX5_settle_9 ?_
  refine zr_get (ci := 5) (k := 12) (v := .int (I h0 12)) C k_h0 (by decide) rfl zinX5 (by decide) wd_170 rfl dX5_settle_10 ?_
  refine zr_iconst (v := (-1)) C (by decide) dX5_settle_13 ?_
  refine zr_iconst (v := (-1)) C (by decide) dX5_settle_14 ?_
  obtain ⟨A4, h5, h⟩ := zb_e h
  refine zr_callVv (n := 4) (As := [.ref (F h0 6), .int (I h0 12), .int (-1), .int (-1)]) C (c_X5_bind l D cy hZ h0 (F h0 6) (I h0 12) (-1) (-1) k_h0 (zt56 hZ k_h0) I A1 h5) wd_310 wd_312 wp_8 wd_1 wd_313 (by decide +kernel) ⟨(Nat.le_of_ble_eq_true rfl), (Nat.le_of_ble_eq_true rfl)⟩ rfl rfl ⟨Nat.le_refl _, Nat.le_refl _⟩ k_h0 (by decide) rfl rfl rfl (Nat.le_of_ble_eq_true rfl) dX5_settle_15 ?_
  refine zr_iconst (v := 0) C (by decide) dX5_settle_18 ?_
  refine zr_istore_n (lv' := [(1, .int 0), (0, .ref h0)]) C rfl (by decide) rfl dX5_settle_19 ?_
  refine zr_iconst (v := 0) C (by decide) dX5_settle_20 ?_
  refine zr_istore_n (lv' := [(2, .int 0), (1, .int 0), (0, .ref h0)]) C rfl (by decide) rfl dX5_settle_21 ?_
  obtain ⟨i7, i8, I9, h10, h⟩ := zb3_e h
  refine zr_lv (lv' := [(0, .ref h0), (1, .int 0), (2, .int 0)]) C [2, 1, 0] rfl ?_
  refine w_X5_settle_22 l D cy hZ C (Nat.le_of_ble_eq_true rfl) (Nat.le_of_ble_eq_true rfl) ⟨Nat.le_refl _, Nat.le_refl _⟩ h0 k_h0 A4 2000 (0, 0, I) (i7, i8, I9) h10 ?_
  refine zr_iload_n C 1 rfl rfl dX5_settle_80 ?_
  cases zso h
  exact zr_iret C hr dX5_settle_81

def f_X5_keep (F G : Nat → Nat → Nat) (h0 : Nat) (I A : zH) : Option (Int32 × zH × zH) :=
  if 4 ≤ (I (F h0 0) 2) then (
    if (I h0 8) < 16 then (
      zck (¬ (I h0 8 < 0 ∨ 16 ≤ (I h0 8).toNatClampNeg)) <|
      zb2 (f_X4_become F G (F (G (F h0 1) (I h0 8).toNatClampNeg) 0) (F h0 0) 0 I A) fun I4 A5 =>
      zlet (up2 I4 h0 8 ((I h0 8) + 1)) fun I8 =>
      zb (f_X5_takeShares F G h0 (I h0 8) I8 A5) fun A9 =>
      zb3 (f_X5_settle F G h0 I8 A9) fun r12 I13 A14 =>
      some (I h0 8, I13, A14)
    ) else (
      none
    )
  ) else (
    none
  )
set_option maxHeartbeats 4000000 in
set_option maxRecDepth 100000 in
theorem c_X5_keep (l : Launch) (D : va_G) (cy : Nat → ClassId) {L : List Nat} {K N : Nat → Nat} {F G : Nat → Nat → Nat} (hZ : ZL L K N F G) (h0 : Nat) (k_h0 : K h0 = 5) (I A : zH) {r : Int32} {J' : zH} {B' : zH} (h : f_X5_keep F G h0 I A = some (r, J', B')) : ZMi l yX5_keep cX5_keep 2 (some .int) { frames := 6, cells := 0, slots := 0, locals := 138 } D cy L K N F G [.ref h0] I A r J' B' := by
  refine ZMi.of (nL := 2) hZ rfl rfl (by decide) (Nat.le_of_ble_eq_true rfl) (fun p e s m args below meth c C hr => ?_)
  unfold f_X5_keep at h
  refine zr_lv (lv' := [(0, .ref h0)]) C [0] rfl ?_
  refine zr_aload_n C 0 rfl rfl dX5_keep_0 ?_
  refine zr_get (ci := 5) (k := 0) (v := .ref (F h0 0)) C k_h0 (by decide) rfl zinX5 (by decide) wd_158 rfl dX5_keep_1 ?_
  refine zr_get (ci := 4) (k := 2) (v := .int (I (F h0 0) 2)) C (zt50 hZ k_h0) (by decide) rfl zinX4 (by decide) wd_32 rfl dX5_keep_4 ?_
  refine zr_iconst (v := 4) C (by decide) dX5_keep_7 ?_
  refine zr_icmp_ge (tgt := 21) C (by decide) dX5_keep_8 (fun hc1 => ?_) (fun hc1 => ?_)
  · have h := zif_t hc1 h
    refine zr_aload_n C 0 rfl rfl dX5_keep_21 ?_
    refine zr_get (ci := 5) (k := 8) (v := .int (I h0 8)) C k_h0 (by decide) rfl zinX5 (by decide) wd_166 rfl dX5_keep_22 ?_
    refine zr_bipush (v := 16) C (by decide) dX5_keep_25 ?_
    refine zr_icmp_lt (tgt := 40) C (by decide) dX5_keep_27 (fun hc2 => ?_) (fun hc2 => ?_)
    · have h := zif_t hc2 h
      refine zr_aload_n C 0 rfl rfl dX5_keep_40 ?_
      refine zr_get (ci := 5) (k := 8) (v := .int (I h0 8)) C k_h0 (by decide) rfl zinX5 (by decide) wd_166 rfl dX5_keep_41 ?_
      refine zr_istore_n (lv' := [(1, .int (I h0 8)), (0, .ref h0)]) C rfl (by decide) rfl dX5_keep_44 ?_
      refine zr_aload_n C 1 rfl rfl dX5_keep_45 ?_
      refine zr_get (ci := 5) (k := 1) (v := .ref (F h0 1)) C k_h0 (by decide) rfl zinX5 (by decide) wd_159 rfl dX5_keep_46 ?_
      refine zr_iload_n C 0 rfl rfl dX5_keep_49 ?_
      obtain ⟨hc3, h⟩ := zck_e h
      refine zr_ald8 C (zt51 hZ k_h0).1 (zt51 hZ k_h0).2 hc3 dX5_keep_50 ?_
      refine zr_get (ci := 2) (k := 0) (v := .ref (F (G (F h0 1) (I h0 8).toNatClampNeg) 0)) C (zt8 hZ (zt51 hZ k_h0).1 (z_ix (zt51 hZ k_h0).2 hc3)) (by decide) rfl zinX2 (by decide) wd_80 rfl dX5_keep_51 ?_
      refine zr_aload_n C 1 rfl rfl dX5_keep_54 ?_
      refine zr_get (ci := 5) (k := 0) (v := .ref (F h0 0)) C k_h0 (by decide) rfl zinX5 (by decide) wd_158 rfl dX5_keep_55 ?_
      refine zr_iconst (v := 0) C (by decide) dX5_keep_58 ?_
      obtain ⟨I4, A5, h6, h⟩ := zb2_e h
      refine zr_callVv (n := 2) (As := [.ref (F h0 0), .int 0]) C (c_X4_become l D cy hZ (F (G (F h0 1) (I h0 8).toNatClampNeg) 0) (F h0 0) 0 (zt2 hZ (zt8 hZ (zt51 hZ k_h0).1 (z_ix (zt51 hZ k_h0).2 hc3))) (zt50 hZ k_h0) I A h6) wd_271 wd_272 wd_273 wd_2 wd_274 (by decide +kernel) ⟨(Nat.le_of_ble_eq_true rfl), (Nat.le_of_ble_eq_true rfl)⟩ rfl rfl ⟨Nat.le_refl _, Nat.le_refl _⟩ (zt2 hZ (zt8 hZ (zt51 hZ k_h0).1 (z_ix (zt51 hZ k_h0).2 hc3))) (by decide) rfl rfl rfl (Nat.le_of_ble_eq_true rfl) dX5_keep_59 ?_
      refine zr_aload_n C 1 rfl rfl dX5_keep_62 ?_
      refine zr_iload_n C 0 rfl rfl dX5_keep_63 ?_
      refine zr_iconst (v := 1) C (by decide) dX5_keep_64 ?_
      refine zr_iadd C dX5_keep_65 ?_
      refine zr_put (ci := 5) (k := 8) (ty := .int) C tyX5 k_h0 (by decide) rfl zinX5 tyX5_ok nmX5 (by decide) wd_166 rfl (by decide +kernel) rfl rfl (Nat.le_of_ble_eq_true rfl) (zset_5_8 F _ _ _) dX5_keep_66 ?_
      obtain ⟨I8, eI8, h⟩ := zlet_e h
      rw [← eI8]
      refine zr_aload_n C 1 rfl rfl dX5_keep_69 ?_
      refine zr_iload_n C 0 rfl rfl dX5_keep_70 ?_
      obtain ⟨A9, h10, h⟩ := zb_e h
      refine zr_callVv (n := 1) (As := [.int (I h0 8)]) C (c_X5_takeShares l D cy hZ h0 (I h0 8) k_h0 I8 A5 h10) wd_291 wd_293 wp_5 wd_1 wd_294 (by decide +kernel) ⟨(Nat.le_of_ble_eq_true rfl), (Nat.le_of_ble_eq_true rfl)⟩ rfl rfl ⟨Nat.le_refl _, Nat.le_refl _⟩ k_h0 (by decide) rfl rfl rfl (Nat.le_of_ble_eq_true rfl) dX5_keep_71 ?_
      refine zr_aload_n C 1 rfl rfl dX5_keep_74 ?_
      obtain ⟨r12, I13, A14, h15, h⟩ := zb3_e h
      refine zr_callVi (n := 0) (As := []) C (c_X5_settle l D cy hZ h0 k_h0 I8 A9 h15) wd_302 wd_304 wp_6 wd_1 wd_305 (by decide +kernel) ⟨(Nat.le_of_ble_eq_true rfl), (Nat.le_of_ble_eq_true rfl)⟩ rfl rfl ⟨Nat.le_refl _, Nat.le_refl _⟩ k_h0 (by decide) rfl rfl rfl (Nat.le_of_ble_eq_true rfl) dX5_keep_75 ?_
      refine zr_pop C rfl dX5_keep_78 ?_
      refine zr_iload_n C 0 rfl rfl dX5_keep_79 ?_
      cases zso h
      exact zr_iret C hr dX5_keep_80
    · have h := zif_f hc2 h
      exact zno h
  · have h := zif_f hc1 h
    exact zno h

def g_X5_takeRivals_9 (F G : Nat → Nat → Nat) (v0 : Nat) (v1 : Int32) (v2 : Nat) (v3 : Int32) (I : zH) (A : zH) : Option ((Int32 × zH) ⊕ (Int32 × zH)) :=
  if v1 < v3 then (
    some (.inr (v3, I))
  ) else (
    zck (¬ (v3 < 0 ∨ 6 ≤ v3.toNatClampNeg)) <|
    zb (f_X1_isRivalOf F G v2 (G (F v0 4) v3.toNatClampNeg) I A) fun r3 =>
    if r3 = 0 then (
      some (.inl (v3 + 1, I))
    ) else (
      zlet (up2 I v2 4 ((I v2 4) ||| ((1 : Int32) <<< (v3 &&& 31)))) fun I7 =>
      zck (¬ (v3 < 0 ∨ 6 ≤ v3.toNatClampNeg)) <|
      zlet (up2 I7 (G (F v0 4) v3.toNatClampNeg) 4 ((I7 (G (F v0 4) v3.toNatClampNeg) 4) ||| ((1 : Int32) <<< (v1 &&& 31)))) fun I9 =>
      some (.inl (v3 + 1, I9))
    )
  )
def f_X5_takeRivals (F G : Nat → Nat → Nat) (h0 : Nat) (p0 : Int32) (I A : zH) : Option (zH) :=
  zck (¬ (p0 < 0 ∨ 6 ≤ p0.toNatClampNeg)) <|
  zb2 (zIt (fun x => g_X5_takeRivals_9 F G h0 p0 (G (F h0 4) p0.toNatClampNeg) x.1 x.2 A) 2000 (0, I)) fun i2 I3 =>
  some I3
set_option maxHeartbeats 4000000 in
set_option maxRecDepth 100000 in
theorem wb_X5_takeRivals_9 (l : Launch) (D : va_G) (cy : Nat → ClassId) {L : List Nat} {K N : Nat → Nat} {F G : Nat → Nat → Nat} (hZ : ZL L K N F G) {p : Program} {e : Env} {R : Room} {s : State} {m : MethodId} {args : Array Value} {below : List Frame} {meth : Method} {c : Code} {cells slots : Nat} {Q : State → Prop} (C : ZC p s m args meth c cX5_takeRivals yX5_takeRivals.cls 4 D cy L K N F G) (hRf : 1 ≤ R.frames) (hRl : 21 ≤ R.locals) (hRc : cells ≤ R.cells ∧ slots ≤ R.slots)  (v0 : Nat) (v1 : Int32) (v2 : Nat) (k0 : K v0 = 5) (k2 : K v2 = 1) (A : zH) (v3 : Int32) (I : zH) (o : (Int32 × zH) ⊕ (Int32 × zH)) (h : g_X5_takeRivals_9 F G v0 v1 v2 v3 I A = some o)
    (hg : ∀ y : Int32 × zH, o = .inl y → ZW p l e R s m args below meth c 4 D cy L K N F G cells slots Q y.2 A 9 [(0, .ref v0), (1, .int v1), (2, .ref v2), (3, .int y.1)] [])
    (hx : ∀ y : Int32 × zH, o = .inr y → ZW p l e R s m args below meth c 4 D cy L K N F G cells slots Q y.2 A 62 [(0, .ref v0), (1, .int v1), (2, .ref v2), (3, .int y.1)] []) : ZW p l e R s m args below meth c 4 D cy L K N F G cells slots Q I A 9 [(0, .ref v0), (1, .int v1), (2, .ref v2), (3, .int v3)] [] := by
  unfold g_X5_takeRivals_9 at h
  refine zr_iload_n C 3 rfl rfl dX5_takeRivals_9 ?_
  refine zr_iload_n C 1 rfl rfl dX5_takeRivals_10 ?_
  refine zr_icmp_gt (tgt := 62) C (by decide) dX5_takeRivals_11 (fun hc1 => ?_) (fun hc1 => ?_)
  · have h := zif_t hc1 h
    obtain rfl := zso h
    refine zr_lv (lv' := [(0, .ref v0), (1, .int v1), (2, .ref v2), (3, .int v3)]) C [0, 1, 2, 3] rfl ?_
    exact hx _ rfl
  · have h := zif_f hc1 h
    refine zr_aload_n C 2 rfl rfl dX5_takeRivals_14 ?_
    refine zr_aload_n C 0 rfl rfl dX5_takeRivals_15 ?_
    refine zr_get (ci := 5) (k := 4) (v := .ref (F v0 4)) C k0 (by decide) rfl zinX5 (by decide) wd_162 rfl dX5_takeRivals_16 ?_
    refine zr_iload_n C 3 rfl rfl dX5_takeRivals_19 ?_
    obtain ⟨hc2, h⟩ := zck_e h
    refine zr_ald7 C (zt54 hZ k0).1 (zt54 hZ k0).2 hc2 dX5_takeRivals_20 ?_
    obtain ⟨r3, h4, h⟩ := zb_e h
    refine zr_callVi (n := 1) (As := [.ref (G (F v0 4) v3.toNatClampNeg)]) C (c_X1_isRivalOf l D cy hZ v2 (G (F v0 4) v3.toNatClampNeg) k2 (zt7 hZ (zt54 hZ k0).1 (z_ix (zt54 hZ k0).2 hc2)) I A h4) wd_428 wd_429 wd_430 wd_5 wd_431 (by decide +kernel) ⟨(Nat.le_trans (Nat.le_of_ble_eq_true rfl) hRf), (Nat.le_trans (Nat.le_of_ble_eq_true rfl) hRl)⟩ rfl rfl hRc k2 (by decide) rfl rfl rfl (Nat.le_of_ble_eq_true rfl) dX5_takeRivals_21 ?_
    refine zr_if_eq (tgt := 56) C (by decide) dX5_takeRivals_24 (fun hc6 => ?_) (fun hc6 => ?_)
    · have h := zif_t hc6 h
      refine zr_iinc (v := v3 + 1) (lv' := [(3, .int (v3 + 1)), (0, .ref v0), (1, .int v1), (2, .ref v2)]) C 3 rfl rfl (by decide) rfl dX5_takeRivals_56 ?_
      refine zr_goto (tgt := 9) C (by decide) dX5_takeRivals_59 ?_
      obtain rfl := zso h
      refine zr_lv (lv' := [(0, .ref v0), (1, .int v1), (2, .ref v2), (3, .int (v3 + 1))]) C [1, 2, 3, 0] rfl ?_
      exact hg _ rfl
    · have h := zif_f hc6 h
      refine zr_aload_n C 2 rfl rfl dX5_takeRivals_27 ?_
      refine zr_dup C rfl dX5_takeRivals_28 ?_
      refine zr_get (ci := 1) (k := 4) (v := .int (I v2 4)) C k2 (by decide) rfl zinX1 (by decide) wd_109 rfl dX5_takeRivals_29 ?_
      refine zr_iconst (v := 1) C (by decide) dX5_takeRivals_32 ?_
      refine zr_iload_n C 3 rfl rfl dX5_takeRivals_33 ?_
      refine zr_ishl C dX5_takeRivals_34 ?_
      refine zr_ior C dX5_takeRivals_35 ?_
      refine zr_put (ci := 1) (k := 4) (ty := .int) C tyX1 k2 (by decide) rfl zinX1 tyX1_ok nmX1 (by decide) wd_109 rfl (by decide +kernel) rfl rfl (Nat.le_of_ble_eq_true rfl) (zset_1_4 F _ _ _) dX5_takeRivals_36 ?_
      obtain ⟨I7, eI7, h⟩ := zlet_e h
      rw [← eI7]
      refine zr_aload_n C 0 rfl rfl dX5_takeRivals_39 ?_
      refine zr_get (ci := 5) (k := 4) (v := .ref (F v0 4)) C k0 (by decide) rfl zinX5 (by decide) wd_162 rfl dX5_takeRivals_40 ?_
      refine zr_iload_n C 3 rfl rfl dX5_takeRivals_43 ?_
      obtain ⟨hc8, h⟩ := zck_e h
      refine zr_ald7 C (zt54 hZ k0).1 (zt54 hZ k0).2 hc8 dX5_takeRivals_44 ?_
      refine zr_dup C rfl dX5_takeRivals_45 ?_
      refine zr_get (ci := 1) (k := 4) (v := .int (I7 (G (F v0 4) v3.toNatClampNeg) 4)) C (zt7 hZ (zt54 hZ k0).1 (z_ix (zt54 hZ k0).2 hc8)) (by decide) rfl zinX1 (by decide) wd_109 rfl dX5_takeRivals_46 ?_
      refine zr_iconst (v := 1) C (by decide) dX5_takeRivals_49 ?_
      refine zr_iload_n C 1 rfl rfl dX5_takeRivals_50 ?_
      refine zr_ishl C dX5_takeRivals_51 ?_
      refine zr_ior C dX5_takeRivals_52 ?_
      refine zr_put (ci := 1) (k := 4) (ty := .int) C tyX1 (zt7 hZ (zt54 hZ k0).1 (z_ix (zt54 hZ k0).2 hc8)) (by decide) rfl zinX1 tyX1_ok nmX1 (by decide) wd_109 rfl (by decide +kernel) rfl rfl (Nat.le_of_ble_eq_true rfl) (zset_1_4 F _ _ _) dX5_takeRivals_53 ?_
      obtain ⟨I9, eI9, h⟩ := zlet_e h
      rw [← eI9]
      refine zr_iinc (v := v3 + 1) (lv' := [(3, .int (v3 + 1)), (0, .ref v0), (1, .int v1), (2, .ref v2)]) C 3 rfl rfl (by decide) rfl dX5_takeRivals_56 ?_
      refine zr_goto (tgt := 9) C (by decide) dX5_takeRivals_59 ?_
      obtain rfl := zso h
      refine zr_lv (lv' := [(0, .ref v0), (1, .int v1), (2, .ref v2), (3, .int (v3 + 1))]) C [1, 2, 3, 0] rfl ?_
      exact hg _ rfl
set_option maxHeartbeats 4000000 in
set_option maxRecDepth 100000 in
theorem w_X5_takeRivals_9 (l : Launch) (D : va_G) (cy : Nat → ClassId) {L : List Nat} {K N : Nat → Nat} {F G : Nat → Nat → Nat} (hZ : ZL L K N F G) {p : Program} {e : Env} {R : Room} {s : State} {m : MethodId} {args : Array Value} {below : List Frame} {meth : Method} {c : Code} {cells slots : Nat} {Q : State → Prop} (C : ZC p s m args meth c cX5_takeRivals yX5_takeRivals.cls 4 D cy L K N F G) (hRf : 1 ≤ R.frames) (hRl : 21 ≤ R.locals) (hRc : cells ≤ R.cells ∧ slots ≤ R.slots)  (v0 : Nat) (v1 : Int32) (v2 : Nat) (k0 : K v0 = 5) (k2 : K v2 = 1) (A : zH) (n : Nat) (x : Int32 × zH) (o : Int32 × zH) (h : zIt (fun x => g_X5_takeRivals_9 F G v0 v1 v2 x.1 x.2 A) n x = some o)
    (hx : ZW p l e R s m args below meth c 4 D cy L K N F G cells slots Q o.2 A 62 [(0, .ref v0), (1, .int v1), (2, .ref v2), (3, .int o.1)] []) : ZW p l e R s m args below meth c 4 D cy L K N F G cells slots Q x.2 A 9 [(0, .ref v0), (1, .int v1), (2, .ref v2), (3, .int x.1)] [] := by
  induction n generalizing x with
  | zero => cases h
  | succ n ih =>
    unfold zIt at h
    cases hb : g_X5_takeRivals_9 F G v0 v1 v2 x.1 x.2 A with
    | none => rw [hb] at h; cases h
    | some q =>
      rw [hb] at h
      refine wb_X5_takeRivals_9 l D cy hZ C hRf hRl hRc v0 v1 v2 k0 k2 A x.1 x.2 q hb (fun y hy => ?_) (fun y hy => ?_)
      · subst hy; exact ih y h
      · subst hy; cases h; exact hx
set_option maxHeartbeats 4000000 in
set_option maxRecDepth 100000 in
theorem c_X5_takeRivals (l : Launch) (D : va_G) (cy : Nat → ClassId) {L : List Nat} {K N : Nat → Nat} {F G : Nat → Nat → Nat} (hZ : ZL L K N F G) (h0 : Nat) (p0 : Int32) (k_h0 : K h0 = 5) (I A : zH) {J' : zH} (h : f_X5_takeRivals F G h0 p0 I A = some J') : ZMv l yX5_takeRivals cX5_takeRivals 4 none { frames := 1, cells := 0, slots := 0, locals := 21 } D cy L K N F G [.ref h0, .int p0] I A J' A := by
  refine ZMv.of (nL := 4) hZ rfl rfl (by decide) (Nat.le_of_ble_eq_true rfl) (fun p e s m args below meth c C hr => ?_)
  unfold f_X5_takeRivals at h
  refine zr_lv (lv' := [(0, .ref h0), (1, .int p0)]) C [0, 1] rfl ?_
  refine zr_aload_n C 0 rfl rfl dX5_takeRivals_0 ?_
  refine zr_get (ci := 5) (k := 4) (v := .ref (F h0 4)) C k_h0 (by decide) rfl zinX5 (by decide) wd_162 rfl dX5_takeRivals_1 ?_
  refine zr_iload_n C 1 rfl rfl dX5_takeRivals_4 ?_
  obtain ⟨hc1, h⟩ := zck_e h
  refine zr_ald7 C (zt54 hZ k_h0).1 (zt54 hZ k_h0).2 hc1 dX5_takeRivals_5 ?_
  refine zr_astore_n (lv' := [(2, .ref (G (F h0 4) p0.toNatClampNeg)), (0, .ref h0), (1, .int p0)]) C rfl (by decide) rfl dX5_takeRivals_6 ?_
  refine zr_iconst (v := 0) C (by decide) dX5_takeRivals_7 ?_
  refine zr_istore_n (lv' := [(3, .int 0), (2, .ref (G (F h0 4) p0.toNatClampNeg)), (0, .ref h0), (1, .int p0)]) C rfl (by decide) rfl dX5_takeRivals_8 ?_
  obtain ⟨i2, I3, h4, h⟩ := zb2_e h
  refine zr_lv (lv' := [(0, .ref h0), (1, .int p0), (2, .ref (G (F h0 4) p0.toNatClampNeg)), (3, .int 0)]) C [2, 3, 1, 0] rfl ?_
  refine w_X5_takeRivals_9 l D cy hZ C (Nat.le_of_ble_eq_true rfl) (Nat.le_of_ble_eq_true rfl) ⟨Nat.le_refl _, Nat.le_refl _⟩ h0 p0 (G (F h0 4) p0.toNatClampNeg) k_h0 (zt7 hZ (zt54 hZ k_h0).1 (z_ix (zt54 hZ k_h0).2 hc1)) A 2000 (0, I) (i2, I3) h4 ?_
  obtain rfl := zso h
  exact zr_vret C hr dX5_takeRivals_62

def f_X5_licence (F G : Nat → Nat → Nat) (h0 : Nat) (p0 : Int32) (p1 : Int32) (p2 : Int32) (p3 : Int32) (I A : zH) : Option (Int32 × zH × zH) :=
  if p0 < 0 then (
    none
  ) else (
    if 32 ≤ p0 then (
      none
    ) else (
      if p1 < 0 then (
        none
      ) else (
        if p1 < 32 then (
          if p3 < 0 then (
            none
          ) else (
            if p3 ≤ 5 then (
              if (I h0 9) < 6 then (
                zck (¬ (I h0 9 < 0 ∨ 6 ≤ (I h0 9).toNatClampNeg)) <|
                zlet (up2 I (G (F h0 4) (I h0 9).toNatClampNeg) 0 p0) fun I9 =>
                zlet (up2 I9 (G (F h0 4) (I h0 9).toNatClampNeg) 1 p1) fun I10 =>
                zck (p2 = 0 ∨ p2 = 1) <|
                zlet (up2 I10 (G (F h0 4) (I h0 9).toNatClampNeg) 2 p2) fun I12 =>
                zlet (up2 I12 (G (F h0 4) (I h0 9).toNatClampNeg) 3 p3) fun I13 =>
                zlet (up2 I13 h0 9 ((I h0 9) + 1)) fun I14 =>
                zb (f_X5_takeRivals F G h0 (I h0 9) I14 A) fun I15 =>
                zb3 (f_X5_settle F G h0 I15 A) fun r18 I19 A20 =>
                some (I h0 9, I19, A20)
              ) else (
                none
              )
            ) else (
              none
            )
          )
        ) else (
          none
        )
      )
    )
  )
set_option maxHeartbeats 4000000 in
set_option maxRecDepth 100000 in
theorem c_X5_licence (l : Launch) (D : va_G) (cy : Nat → ClassId) {L : List Nat} {K N : Nat → Nat} {F G : Nat → Nat → Nat} (hZ : ZL L K N F G) (h0 : Nat) (p0 : Int32) (p1 : Int32) (p2 : Int32) (p3 : Int32) (k_h0 : K h0 = 5) (I A : zH) {r : Int32} {J' : zH} {B' : zH} (h : f_X5_licence F G h0 p0 p1 p2 p3 I A = some (r, J', B')) : ZMi l yX5_licence cX5_licence 7 (some .int) { frames := 6, cells := 0, slots := 0, locals := 138 } D cy L K N F G [.ref h0, .int p0, .int p1, .int p2, .int p3] I A r J' B' := by
  refine ZMi.of (nL := 7) hZ rfl rfl (by decide) (Nat.le_of_ble_eq_true rfl) (fun p e s m args below meth c C hr => ?_)
  unfold f_X5_licence at h
  refine zr_lv (lv' := [(0, .ref h0), (1, .int p0), (2, .int p1), (3, .int p2), (4, .int p3)]) C [0, 1, 2, 3, 4] rfl ?_
  refine zr_iload_n C 1 rfl rfl dX5_licence_0 ?_
  refine zr_if_lt (tgt := 20) C (by decide) dX5_licence_1 (fun hc1 => ?_) (fun hc1 => ?_)
  · have h := zif_t hc1 h
    exact zno h
  · have h := zif_f hc1 h
    refine zr_iload_n C 1 rfl rfl dX5_licence_4 ?_
    refine zr_bipush (v := 32) C (by decide) dX5_licence_5 ?_
    refine zr_icmp_ge (tgt := 20) C (by decide) dX5_licence_7 (fun hc2 => ?_) (fun hc2 => ?_)
    · have h := zif_t hc2 h
      exact zno h
    · have h := zif_f hc2 h
      refine zr_iload_n C 2 rfl rfl dX5_licence_10 ?_
      refine zr_if_lt (tgt := 20) C (by decide) dX5_licence_11 (fun hc3 => ?_) (fun hc3 => ?_)
      · have h := zif_t hc3 h
        exact zno h
      · have h := zif_f hc3 h
        refine zr_iload_n C 2 rfl rfl dX5_licence_14 ?_
        refine zr_bipush (v := 32) C (by decide) dX5_licence_15 ?_
        refine zr_icmp_lt (tgt := 30) C (by decide) dX5_licence_17 (fun hc4 => ?_) (fun hc4 => ?_)
        · have h := zif_t hc4 h
          refine zr_iload C 4 rfl dX5_licence_30 ?_
          refine zr_if_lt (tgt := 41) C (by decide) dX5_licence_32 (fun hc5 => ?_) (fun hc5 => ?_)
          · have h := zif_t hc5 h
            exact zno h
          · have h := zif_f hc5 h
            refine zr_iload C 4 rfl dX5_licence_35 ?_
            refine zr_iconst (v := 5) C (by decide) dX5_licence_37 ?_
            refine zr_icmp_le (tgt := 51) C (by decide) dX5_licence_38 (fun hc6 => ?_) (fun hc6 => ?_)
            · have h := zif_t hc6 h
              refine zr_aload_n C 0 rfl rfl dX5_licence_51 ?_
              refine zr_get (ci := 5) (k := 9) (v := .int (I h0 9)) C k_h0 (by decide) rfl zinX5 (by decide) wd_167 rfl dX5_licence_52 ?_
              refine zr_bipush (v := 6) C (by decide) dX5_licence_55 ?_
              refine zr_icmp_lt (tgt := 70) C (by decide) dX5_licence_57 (fun hc7 => ?_) (fun hc7 => ?_)
              · have h := zif_t hc7 h
                refine zr_aload_n C 0 rfl rfl dX5_licence_70 ?_
                refine zr_get (ci := 5) (k := 9) (v := .int (I h0 9)) C k_h0 (by decide) rfl zinX5 (by decide) wd_167 rfl dX5_licence_71 ?_
                refine zr_istore (lv' := [(5, .int (I h0 9)), (0, .ref h0), (1, .int p0), (2, .int p1), (3, .int p2), (4, .int p3)]) C (by decide) rfl dX5_licence_74 ?_
                refine zr_aload_n C 1 rfl rfl dX5_licence_76 ?_
                refine zr_get (ci := 5) (k := 4) (v := .ref (F h0 4)) C k_h0 (by decide) rfl zinX5 (by decide) wd_162 rfl dX5_licence_77 ?_
                refine zr_iload C 0 rfl dX5_licence_80 ?_
                obtain ⟨hc8, h⟩ := zck_e h
                refine zr_ald7 C (zt54 hZ k_h0).1 (zt54 hZ k_h0).2 hc8 dX5_licence_82 ?_
                refine zr_astore (lv' := [(6, .ref (G (F h0 4) (I h0 9).toNatClampNeg)), (5, .int (I h0 9)), (0, .ref h0), (1, .int p0), (2, .int p1), (3, .int p2), (4, .int p3)]) C (by decide) rfl dX5_licence_83 ?_
                refine zr_aload C 0 rfl dX5_licence_85 ?_
                refine zr_iload_n C 3 rfl rfl dX5_licence_87 ?_
                refine zr_put (ci := 1) (k := 0) (ty := .int) C tyX1 (zt7 hZ (zt54 hZ k_h0).1 (z_ix (zt54 hZ k_h0).2 hc8)) (by decide) rfl zinX1 tyX1_ok nmX1 (by decide) wd_99 rfl (by decide +kernel) rfl rfl (Nat.le_of_ble_eq_true rfl) (zset_1_0 F _ _ _) dX5_licence_88 ?_
                obtain ⟨I9, eI9, h⟩ := zlet_e h
                rw [← eI9]
                refine zr_aload C 0 rfl dX5_licence_91 ?_
                refine zr_iload_n C 4 rfl rfl dX5_licence_93 ?_
                refine zr_put (ci := 1) (k := 1) (ty := .int) C tyX1 (zt7 hZ (zt54 hZ k_h0).1 (z_ix (zt54 hZ k_h0).2 hc8)) (by decide) rfl zinX1 tyX1_ok nmX1 (by decide) wd_101 rfl (by decide +kernel) rfl rfl (Nat.le_of_ble_eq_true rfl) (zset_1_1 F _ _ _) dX5_licence_94 ?_
                obtain ⟨I10, eI10, h⟩ := zlet_e h
                rw [← eI10]
                refine zr_aload C 0 rfl dX5_licence_97 ?_
                refine zr_iload_n C 5 rfl rfl dX5_licence_99 ?_
                obtain ⟨hc11, h⟩ := zck_e h
                refine zr_put (ci := 1) (k := 2) (ty := .boolean) C tyX1 (zt7 hZ (zt54 hZ k_h0).1 (z_ix (zt54 hZ k_h0).2 hc8)) (by decide) rfl zinX1 tyX1_ok nmX1 (by decide) wd_104 rfl (by decide +kernel) (z_nb hc11) (z_fb hc11) (Nat.le_of_ble_eq_true rfl) (zset_1_2 F _ _ _) dX5_licence_100 ?_
                obtain ⟨I12, eI12, h⟩ := zlet_e h
                rw [← eI12]
                refine zr_aload C 0 rfl dX5_licence_103 ?_
                refine zr_iload C 6 rfl dX5_licence_105 ?_
                refine zr_put (ci := 1) (k := 3) (ty := .int) C tyX1 (zt7 hZ (zt54 hZ k_h0).1 (z_ix (zt54 hZ k_h0).2 hc8)) (by decide) rfl zinX1 tyX1_ok nmX1 (by decide) wd_106 rfl (by decide +kernel) rfl rfl (Nat.le_of_ble_eq_true rfl) (zset_1_3 F _ _ _) dX5_licence_107 ?_
                obtain ⟨I13, eI13, h⟩ := zlet_e h
                rw [← eI13]
                refine zr_aload_n C 2 rfl rfl dX5_licence_110 ?_
                refine zr_iload C 1 rfl dX5_licence_111 ?_
                refine zr_iconst (v := 1) C (by decide) dX5_licence_113 ?_
                refine zr_iadd C dX5_licence_114 ?_
                refine zr_put (ci := 5) (k := 9) (ty := .int) C tyX5 k_h0 (by decide) rfl zinX5 tyX5_ok nmX5 (by decide) wd_167 rfl (by decide +kernel) rfl rfl (Nat.le_of_ble_eq_true rfl) (zset_5_9 F _ _ _) dX5_licence_115 ?_
                obtain ⟨I14, eI14, h⟩ := zlet_e h
                rw [← eI14]
                refine zr_aload_n C 2 rfl rfl dX5_licence_118 ?_
                refine zr_iload C 1 rfl dX5_licence_119 ?_
                obtain ⟨I15, h16, h⟩ := zb_e h
                refine zr_callVv (n := 1) (As := [.int (I h0 9)]) C (c_X5_takeRivals l D cy hZ h0 (I h0 9) k_h0 I14 A h16) wd_424 wd_426 wp_13 wd_1 wd_427 (by decide +kernel) ⟨(Nat.le_of_ble_eq_true rfl), (Nat.le_of_ble_eq_true rfl)⟩ rfl rfl ⟨Nat.le_refl _, Nat.le_refl _⟩ k_h0 (by decide) rfl rfl rfl (Nat.le_of_ble_eq_true rfl) dX5_licence_121 ?_
                refine zr_aload_n C 2 rfl rfl dX5_licence_124 ?_
                obtain ⟨r18, I19, A20, h21, h⟩ := zb3_e h
                refine zr_callVi (n := 0) (As := []) C (c_X5_settle l D cy hZ h0 k_h0 I15 A h21) wd_302 wd_304 wp_6 wd_1 wd_305 (by decide +kernel) ⟨(Nat.le_of_ble_eq_true rfl), (Nat.le_of_ble_eq_true rfl)⟩ rfl rfl ⟨Nat.le_refl _, Nat.le_refl _⟩ k_h0 (by decide) rfl rfl rfl (Nat.le_of_ble_eq_true rfl) dX5_licence_125 ?_
                refine zr_pop C rfl dX5_licence_128 ?_
                refine zr_iload C 1 rfl dX5_licence_129 ?_
                cases zso h
                exact zr_iret C hr dX5_licence_131
              · have h := zif_f hc7 h
                exact zno h
            · have h := zif_f hc6 h
              exact zno h
        · have h := zif_f hc4 h
          exact zno h

def f_X5_tell (F G : Nat → Nat → Nat) (h0 : Nat) (p0 : Int32) (p1 : Int32) (I A : zH) : Option (Int32 × zH × zH) :=
  zb (f_X5_needPiece F G h0 p0 I A) fun _ =>
  if p1 = (-1) then (
    zck (¬ (p0 < 0 ∨ 16 ≤ p0.toNatClampNeg)) <|
    zlet (up2 I (G (F h0 1) p0.toNatClampNeg) 1 p1) fun I5 =>
    zb3 (f_X5_settle F G h0 I5 A) fun r6 I7 A8 =>
    some (r6, I7, A8)
  ) else (
    zb (f_X5_needLicence F G h0 p1 I A) fun _ =>
    zck (¬ (p0 < 0 ∨ 16 ≤ p0.toNatClampNeg)) <|
    zlet (up2 I (G (F h0 1) p0.toNatClampNeg) 1 p1) fun I14 =>
    zb3 (f_X5_settle F G h0 I14 A) fun r15 I16 A17 =>
    some (r15, I16, A17)
  )
set_option maxHeartbeats 4000000 in
set_option maxRecDepth 100000 in
theorem c_X5_tell (l : Launch) (D : va_G) (cy : Nat → ClassId) {L : List Nat} {K N : Nat → Nat} {F G : Nat → Nat → Nat} (hZ : ZL L K N F G) (h0 : Nat) (p0 : Int32) (p1 : Int32) (k_h0 : K h0 = 5) (I A : zH) {r : Int32} {J' : zH} {B' : zH} (h : f_X5_tell F G h0 p0 p1 I A = some (r, J', B')) : ZMi l yX5_tell cX5_tell 3 (some .int) { frames := 6, cells := 0, slots := 0, locals := 138 } D cy L K N F G [.ref h0, .int p0, .int p1] I A r J' B' := by
  refine ZMi.of (nL := 3) hZ rfl rfl (by decide) (Nat.le_of_ble_eq_true rfl) (fun p e s m args below meth c C hr => ?_)
  unfold f_X5_tell at h
  refine zr_lv (lv' := [(0, .ref h0), (1, .int p0), (2, .int p1)]) C [0, 1, 2] rfl ?_
  refine zr_aload_n C 0 rfl rfl dX5_tell_0 ?_
  refine zr_iload_n C 1 rfl rfl dX5_tell_1 ?_
  obtain ⟨_, h1, h⟩ := zb_e h
  refine zr_callVv (n := 1) (As := [.int p0]) C (c_X5_needPiece l D cy hZ h0 p0 k_h0 I A h1) wd_368 wd_370 wp_10 wd_1 wd_371 (by decide +kernel) ⟨(Nat.le_of_ble_eq_true rfl), (Nat.le_of_ble_eq_true rfl)⟩ rfl rfl ⟨Nat.le_refl _, Nat.le_refl _⟩ k_h0 (by decide) rfl rfl rfl (Nat.le_of_ble_eq_true rfl) dX5_tell_2 ?_
  refine zr_iload_n C 2 rfl rfl dX5_tell_5 ?_
  refine zr_iconst (v := (-1)) C (by decide) dX5_tell_6 ?_
  refine zr_icmp_eq (tgt := 15) C (by decide) dX5_tell_7 (fun hc3 => ?_) (fun hc3 => ?_)
  · have h := zif_t hc3 h
    refine zr_aload_n C 0 rfl rfl dX5_tell_15 ?_
    refine zr_get (ci := 5) (k := 1) (v := .ref (F h0 1)) C k_h0 (by decide) rfl zinX5 (by decide) wd_159 rfl dX5_tell_16 ?_
    refine zr_iload_n C 1 rfl rfl dX5_tell_19 ?_
    obtain ⟨hc4, h⟩ := zck_e h
    refine zr_ald8 C (zt51 hZ k_h0).1 (zt51 hZ k_h0).2 hc4 dX5_tell_20 ?_
    refine zr_iload_n C 2 rfl rfl dX5_tell_21 ?_
    refine zr_put (ci := 2) (k := 1) (ty := .int) C tyX2 (zt8 hZ (zt51 hZ k_h0).1 (z_ix (zt51 hZ k_h0).2 hc4)) (by decide) rfl zinX2 tyX2_ok nmX2 (by decide) wd_82 rfl (by decide +kernel) rfl rfl (Nat.le_of_ble_eq_true rfl) (zset_2_1 F _ _ _) dX5_tell_22 ?_
    obtain ⟨I5, eI5, h⟩ := zlet_e h
    rw [← eI5]
    refine zr_aload_n C 0 rfl rfl dX5_tell_25 ?_
    obtain ⟨r6, I7, A8, h9, h⟩ := zb3_e h
    refine zr_callVi (n := 0) (As := []) C (c_X5_settle l D cy hZ h0 k_h0 I5 A h9) wd_302 wd_304 wp_6 wd_1 wd_305 (by decide +kernel) ⟨(Nat.le_of_ble_eq_true rfl), (Nat.le_of_ble_eq_true rfl)⟩ rfl rfl ⟨Nat.le_refl _, Nat.le_refl _⟩ k_h0 (by decide) rfl rfl rfl (Nat.le_of_ble_eq_true rfl) dX5_tell_26 ?_
    cases zso h
    exact zr_iret C hr dX5_tell_29
  · have h := zif_f hc3 h
    refine zr_aload_n C 0 rfl rfl dX5_tell_10 ?_
    refine zr_iload_n C 2 rfl rfl dX5_tell_11 ?_
    obtain ⟨_, h11, h⟩ := zb_e h
    refine zr_callVv (n := 1) (As := [.int p1]) C (c_X5_needLicence l D cy hZ h0 p1 k_h0 I A h11) wd_436 wd_438 wp_14 wd_1 wd_439 (by decide +kernel) ⟨(Nat.le_of_ble_eq_true rfl), (Nat.le_of_ble_eq_true rfl)⟩ rfl rfl ⟨Nat.le_refl _, Nat.le_refl _⟩ k_h0 (by decide) rfl rfl rfl (Nat.le_of_ble_eq_true rfl) dX5_tell_12 ?_
    refine zr_aload_n C 0 rfl rfl dX5_tell_15 ?_
    refine zr_get (ci := 5) (k := 1) (v := .ref (F h0 1)) C k_h0 (by decide) rfl zinX5 (by decide) wd_159 rfl dX5_tell_16 ?_
    refine zr_iload_n C 1 rfl rfl dX5_tell_19 ?_
    obtain ⟨hc13, h⟩ := zck_e h
    refine zr_ald8 C (zt51 hZ k_h0).1 (zt51 hZ k_h0).2 hc13 dX5_tell_20 ?_
    refine zr_iload_n C 2 rfl rfl dX5_tell_21 ?_
    refine zr_put (ci := 2) (k := 1) (ty := .int) C tyX2 (zt8 hZ (zt51 hZ k_h0).1 (z_ix (zt51 hZ k_h0).2 hc13)) (by decide) rfl zinX2 tyX2_ok nmX2 (by decide) wd_82 rfl (by decide +kernel) rfl rfl (Nat.le_of_ble_eq_true rfl) (zset_2_1 F _ _ _) dX5_tell_22 ?_
    obtain ⟨I14, eI14, h⟩ := zlet_e h
    rw [← eI14]
    refine zr_aload_n C 0 rfl rfl dX5_tell_25 ?_
    obtain ⟨r15, I16, A17, h18, h⟩ := zb3_e h
    refine zr_callVi (n := 0) (As := []) C (c_X5_settle l D cy hZ h0 k_h0 I14 A h18) wd_302 wd_304 wp_6 wd_1 wd_305 (by decide +kernel) ⟨(Nat.le_of_ble_eq_true rfl), (Nat.le_of_ble_eq_true rfl)⟩ rfl rfl ⟨Nat.le_refl _, Nat.le_refl _⟩ k_h0 (by decide) rfl rfl rfl (Nat.le_of_ble_eq_true rfl) dX5_tell_26 ?_
    cases zso h
    exact zr_iret C hr dX5_tell_29

def f_X5_ask (F G : Nat → Nat → Nat) (h0 : Nat) (p0 : Int32) (p1 : Int32) (I A : zH) : Option (Int32 × zH × zH) :=
  zb (f_X5_needPiece F G h0 p0 I A) fun _ =>
  zb (f_X5_needLicence F G h0 p1 I A) fun _ =>
  zb (f_X0_licencesOf F G (F h0 6) p0 I A) fun r5 =>
  zb (f_X5_hasBit F G r5 p1 I A) fun r8 =>
  if r8 = 0 then (
    none
  ) else (
    zck (¬ (p1 < 0 ∨ 6 ≤ p1.toNatClampNeg)) <|
    if 0 < (I (G (F h0 4) p1.toNatClampNeg) 3) then (
      zlet (up2 I (G (F h0 4) p1.toNatClampNeg) 3 ((I (G (F h0 4) p1.toNatClampNeg) 3) - 1)) fun I14 =>
      zck (¬ (p0 < 0 ∨ 16 ≤ p0.toNatClampNeg)) <|
      zlet (up2 I14 (G (F h0 1) p0.toNatClampNeg) 2 ((I14 (G (F h0 1) p0.toNatClampNeg) 2) ||| ((1 : Int32) <<< (p1 &&& 31)))) fun I16 =>
      zlet (up2 I16 h0 11 ((I16 h0 11) + 1)) fun I17 =>
      zb3 (f_X5_settle F G h0 I17 A) fun r18 I19 A20 =>
      some (1, I19, A20)
    ) else (
      some (0, I, A)
    )
  )
set_option maxHeartbeats 4000000 in
set_option maxRecDepth 100000 in
theorem c_X5_ask (l : Launch) (D : va_G) (cy : Nat → ClassId) {L : List Nat} {K N : Nat → Nat} {F G : Nat → Nat → Nat} (hZ : ZL L K N F G) (h0 : Nat) (p0 : Int32) (p1 : Int32) (k_h0 : K h0 = 5) (I A : zH) {r : Int32} {J' : zH} {B' : zH} (h : f_X5_ask F G h0 p0 p1 I A = some (r, J', B')) : ZMi l yX5_ask cX5_ask 4 (some .boolean) { frames := 6, cells := 0, slots := 0, locals := 138 } D cy L K N F G [.ref h0, .int p0, .int p1] I A r J' B' := by
  refine ZMi.of (nL := 4) hZ rfl rfl (by decide) (Nat.le_of_ble_eq_true rfl) (fun p e s m args below meth c C hr => ?_)
  unfold f_X5_ask at h
  refine zr_lv (lv' := [(0, .ref h0), (1, .int p0), (2, .int p1)]) C [0, 1, 2] rfl ?_
  refine zr_aload_n C 0 rfl rfl dX5_ask_0 ?_
  refine zr_iload_n C 1 rfl rfl dX5_ask_1 ?_
  obtain ⟨_, h1, h⟩ := zb_e h
  refine zr_callVv (n := 1) (As := [.int p0]) C (c_X5_needPiece l D cy hZ h0 p0 k_h0 I A h1) wd_368 wd_370 wp_10 wd_1 wd_371 (by decide +kernel) ⟨(Nat.le_of_ble_eq_true rfl), (Nat.le_of_ble_eq_true rfl)⟩ rfl rfl ⟨Nat.le_refl _, Nat.le_refl _⟩ k_h0 (by decide) rfl rfl rfl (Nat.le_of_ble_eq_true rfl) dX5_ask_2 ?_
  refine zr_aload_n C 0 rfl rfl dX5_ask_5 ?_
  refine zr_iload_n C 2 rfl rfl dX5_ask_6 ?_
  obtain ⟨_, h3, h⟩ := zb_e h
  refine zr_callVv (n := 1) (As := [.int p1]) C (c_X5_needLicence l D cy hZ h0 p1 k_h0 I A h3) wd_436 wd_438 wp_14 wd_1 wd_439 (by decide +kernel) ⟨(Nat.le_of_ble_eq_true rfl), (Nat.le_of_ble_eq_true rfl)⟩ rfl rfl ⟨Nat.le_refl _, Nat.le_refl _⟩ k_h0 (by decide) rfl rfl rfl (Nat.le_of_ble_eq_true rfl) dX5_ask_7 ?_
  refine zr_aload_n C 0 rfl rfl dX5_ask_10 ?_
  refine zr_get (ci := 5) (k := 6) (v := .ref (F h0 6)) C k_h0 (by decide) rfl zinX5 (by decide) wd_164 rfl dX5_ask_11 ?_
  refine zr_iload_n C 1 rfl rfl dX5_ask_14 ?_
  obtain ⟨r5, h6, h⟩ := zb_e h
  refine zr_callVi (n := 1) (As := [.int p0]) C (c_X0_licencesOf l D cy hZ (F h0 6) p0 (zt56 hZ k_h0) I A h6) wd_314 wd_315 wd_316 wd_3 wd_317 (by decide +kernel) ⟨(Nat.le_of_ble_eq_true rfl), (Nat.le_of_ble_eq_true rfl)⟩ rfl rfl ⟨Nat.le_refl _, Nat.le_refl _⟩ (zt56 hZ k_h0) (by decide) rfl rfl rfl (Nat.le_of_ble_eq_true rfl) dX5_ask_15 ?_
  refine zr_iload_n C 2 rfl rfl dX5_ask_18 ?_
  obtain ⟨r8, h9, h⟩ := zb_e h
  refine zr_callSi (n := 2) (As := [.int r5, .int p1]) C (c_X5_hasBit l D cy hZ r5 p1 I A h9) wd_392 wd_323 wd_1 wd_324 (by decide +kernel) ⟨(Nat.le_of_ble_eq_true rfl), (Nat.le_of_ble_eq_true rfl)⟩ rfl rfl ⟨Nat.le_refl _, Nat.le_refl _⟩ rfl rfl (Nat.le_of_ble_eq_true rfl) dX5_ask_19 ?_
  refine zr_if_ne (tgt := 35) C (by decide) dX5_ask_22 (fun hc11 => ?_) (fun hc11 => ?_)
  · have h := zif_f hc11 h
    refine zr_aload_n C 0 rfl rfl dX5_ask_35 ?_
    refine zr_get (ci := 5) (k := 4) (v := .ref (F h0 4)) C k_h0 (by decide) rfl zinX5 (by decide) wd_162 rfl dX5_ask_36 ?_
    refine zr_iload_n C 2 rfl rfl dX5_ask_39 ?_
    obtain ⟨hc12, h⟩ := zck_e h
    refine zr_ald7 C (zt54 hZ k_h0).1 (zt54 hZ k_h0).2 hc12 dX5_ask_40 ?_
    refine zr_astore_n (lv' := [(3, .ref (G (F h0 4) p1.toNatClampNeg)), (0, .ref h0), (1, .int p0), (2, .int p1)]) C rfl (by decide) rfl dX5_ask_41 ?_
    refine zr_aload_n C 0 rfl rfl dX5_ask_42 ?_
    refine zr_get (ci := 1) (k := 3) (v := .int (I (G (F h0 4) p1.toNatClampNeg) 3)) C (zt7 hZ (zt54 hZ k_h0).1 (z_ix (zt54 hZ k_h0).2 hc12)) (by decide) rfl zinX1 (by decide) wd_106 rfl dX5_ask_43 ?_
    refine zr_if_gt (tgt := 51) C (by decide) dX5_ask_46 (fun hc13 => ?_) (fun hc13 => ?_)
    · have h := zif_t hc13 h
      refine zr_aload_n C 0 rfl rfl dX5_ask_51 ?_
      refine zr_dup C rfl dX5_ask_52 ?_
      refine zr_get (ci := 1) (k := 3) (v := .int (I (G (F h0 4) p1.toNatClampNeg) 3)) C (zt7 hZ (zt54 hZ k_h0).1 (z_ix (zt54 hZ k_h0).2 hc12)) (by decide) rfl zinX1 (by decide) wd_106 rfl dX5_ask_53 ?_
      refine zr_iconst (v := 1) C (by decide) dX5_ask_56 ?_
      refine zr_isub C dX5_ask_57 ?_
      refine zr_put (ci := 1) (k := 3) (ty := .int) C tyX1 (zt7 hZ (zt54 hZ k_h0).1 (z_ix (zt54 hZ k_h0).2 hc12)) (by decide) rfl zinX1 tyX1_ok nmX1 (by decide) wd_106 rfl (by decide +kernel) rfl rfl (Nat.le_of_ble_eq_true rfl) (zset_1_3 F _ _ _) dX5_ask_58 ?_
      obtain ⟨I14, eI14, h⟩ := zlet_e h
      rw [← eI14]
      refine zr_aload_n C 1 rfl rfl dX5_ask_61 ?_
      refine zr_get (ci := 5) (k := 1) (v := .ref (F h0 1)) C k_h0 (by decide) rfl zinX5 (by decide) wd_159 rfl dX5_ask_62 ?_
      refine zr_iload_n C 2 rfl rfl dX5_ask_65 ?_
      obtain ⟨hc15, h⟩ := zck_e h
      refine zr_ald8 C (zt51 hZ k_h0).1 (zt51 hZ k_h0).2 hc15 dX5_ask_66 ?_
      refine zr_dup C rfl dX5_ask_67 ?_
      refine zr_get (ci := 2) (k := 2) (v := .int (I14 (G (F h0 1) p0.toNatClampNeg) 2)) C (zt8 hZ (zt51 hZ k_h0).1 (z_ix (zt51 hZ k_h0).2 hc15)) (by decide) rfl zinX2 (by decide) wd_84 rfl dX5_ask_68 ?_
      refine zr_iconst (v := 1) C (by decide) dX5_ask_71 ?_
      refine zr_iload_n C 3 rfl rfl dX5_ask_72 ?_
      refine zr_ishl C dX5_ask_73 ?_
      refine zr_ior C dX5_ask_74 ?_
      refine zr_put (ci := 2) (k := 2) (ty := .int) C tyX2 (zt8 hZ (zt51 hZ k_h0).1 (z_ix (zt51 hZ k_h0).2 hc15)) (by decide) rfl zinX2 tyX2_ok nmX2 (by decide) wd_84 rfl (by decide +kernel) rfl rfl (Nat.le_of_ble_eq_true rfl) (zset_2_2 F _ _ _) dX5_ask_75 ?_
      obtain ⟨I16, eI16, h⟩ := zlet_e h
      rw [← eI16]
      refine zr_aload_n C 1 rfl rfl dX5_ask_78 ?_
      refine zr_dup C rfl dX5_ask_79 ?_
      refine zr_get (ci := 5) (k := 11) (v := .int (I16 h0 11)) C k_h0 (by decide) rfl zinX5 (by decide) wd_169 rfl dX5_ask_80 ?_
      refine zr_iconst (v := 1) C (by decide) dX5_ask_83 ?_
      refine zr_iadd C dX5_ask_84 ?_
      refine zr_put (ci := 5) (k := 11) (ty := .int) C tyX5 k_h0 (by decide) rfl zinX5 tyX5_ok nmX5 (by decide) wd_169 rfl (by decide +kernel) rfl rfl (Nat.le_of_ble_eq_true rfl) (zset_5_11 F _ _ _) dX5_ask_85 ?_
      obtain ⟨I17, eI17, h⟩ := zlet_e h
      rw [← eI17]
      refine zr_aload_n C 1 rfl rfl dX5_ask_88 ?_
      obtain ⟨r18, I19, A20, h21, h⟩ := zb3_e h
      refine zr_callVi (n := 0) (As := []) C (c_X5_settle l D cy hZ h0 k_h0 I17 A h21) wd_302 wd_304 wp_6 wd_1 wd_305 (by decide +kernel) ⟨(Nat.le_of_ble_eq_true rfl), (Nat.le_of_ble_eq_true rfl)⟩ rfl rfl ⟨Nat.le_refl _, Nat.le_refl _⟩ k_h0 (by decide) rfl rfl rfl (Nat.le_of_ble_eq_true rfl) dX5_ask_89 ?_
      refine zr_pop C rfl dX5_ask_92 ?_
      refine zr_iconst (v := 1) C (by decide) dX5_ask_93 ?_
      cases zso h
      exact zr_zret C hr rfl dX5_ask_94
    · have h := zif_f hc13 h
      refine zr_iconst (v := 0) C (by decide) dX5_ask_49 ?_
      cases zso h
      exact zr_zret C hr rfl dX5_ask_50
  · have h := zif_t hc11 h
    exact zno h

def f_X5_project (F G : Nat → Nat → Nat) (h0 : Nat) (I A : zH) : Option (Int32 × zH) :=
  if (I h0 10) < 5 then (
    zlet (up2 I h0 10 ((I h0 10) + 1)) fun I2 =>
    some (I h0 10, I2)
  ) else (
    none
  )
set_option maxHeartbeats 4000000 in
set_option maxRecDepth 100000 in
theorem c_X5_project (l : Launch) (D : va_G) (cy : Nat → ClassId) {L : List Nat} {K N : Nat → Nat} {F G : Nat → Nat → Nat} (hZ : ZL L K N F G) (h0 : Nat) (k_h0 : K h0 = 5) (I A : zH) {r : Int32} {J' : zH} (h : f_X5_project F G h0 I A = some (r, J')) : ZMi l yX5_project cX5_project 2 (some .int) { frames := 0, cells := 0, slots := 0, locals := 0 } D cy L K N F G [.ref h0] I A r J' A := by
  refine ZMi.of (nL := 2) hZ rfl rfl (by decide) (Nat.le_of_ble_eq_true rfl) (fun p e s m args below meth c C hr => ?_)
  unfold f_X5_project at h
  refine zr_lv (lv' := [(0, .ref h0)]) C [0] rfl ?_
  refine zr_aload_n C 0 rfl rfl dX5_project_0 ?_
  refine zr_get (ci := 5) (k := 10) (v := .int (I h0 10)) C k_h0 (by decide) rfl zinX5 (by decide) wd_168 rfl dX5_project_1 ?_
  refine zr_iconst (v := 5) C (by decide) dX5_project_4 ?_
  refine zr_icmp_lt (tgt := 18) C (by decide) dX5_project_5 (fun hc1 => ?_) (fun hc1 => ?_)
  · have h := zif_t hc1 h
    refine zr_aload_n C 0 rfl rfl dX5_project_18 ?_
    refine zr_get (ci := 5) (k := 10) (v := .int (I h0 10)) C k_h0 (by decide) rfl zinX5 (by decide) wd_168 rfl dX5_project_19 ?_
    refine zr_istore_n (lv' := [(1, .int (I h0 10)), (0, .ref h0)]) C rfl (by decide) rfl dX5_project_22 ?_
    refine zr_aload_n C 1 rfl rfl dX5_project_23 ?_
    refine zr_iload_n C 0 rfl rfl dX5_project_24 ?_
    refine zr_iconst (v := 1) C (by decide) dX5_project_25 ?_
    refine zr_iadd C dX5_project_26 ?_
    refine zr_put (ci := 5) (k := 10) (ty := .int) C tyX5 k_h0 (by decide) rfl zinX5 tyX5_ok nmX5 (by decide) wd_168 rfl (by decide +kernel) rfl rfl (Nat.le_of_ble_eq_true rfl) (zset_5_10 F _ _ _) dX5_project_27 ?_
    obtain ⟨I2, eI2, h⟩ := zlet_e h
    rw [← eI2]
    refine zr_iload_n C 0 rfl rfl dX5_project_30 ?_
    cases zso h
    exact zr_iret C hr dX5_project_31
  · have h := zif_f hc1 h
    exact zno h

def f_X5_node (F G : Nat → Nat → Nat) (h0 : Nat) (p0 : Int32) (p1 : Int32) (p2 : Int32) (I A : zH) : Option (Int32 × zH × zH) :=
  zb (f_X5_needNode F G h0 p0 p1 I A) fun _ =>
  if p2 = (-1) then (
    zck (¬ (p0 < 0 ∨ 5 ≤ p0.toNatClampNeg)) <|
    zb (f_X3_firstFreeNode F G (G (F h0 5) p0.toNatClampNeg) I A) fun r5 =>
    if r5 = (-1) then (
      none
    ) else (
      zck (¬ (p0 < 0 ∨ 5 ≤ p0.toNatClampNeg)) <|
      zb2 (f_X3_grow F G (G (F h0 5) p0.toNatClampNeg) r5 p1 p2 I A) fun I10 A11 =>
      zb3 (f_X5_settle F G h0 I10 A11) fun r14 I15 A16 =>
      some (r5, I15, A16)
    )
  ) else (
    zb (f_X5_needPiece F G h0 p2 I A) fun _ =>
    zck (¬ (p0 < 0 ∨ 5 ≤ p0.toNatClampNeg)) <|
    zb (f_X3_firstFreeNode F G (G (F h0 5) p0.toNatClampNeg) I A) fun r22 =>
    if r22 = (-1) then (
      none
    ) else (
      zck (¬ (p0 < 0 ∨ 5 ≤ p0.toNatClampNeg)) <|
      zb2 (f_X3_grow F G (G (F h0 5) p0.toNatClampNeg) r22 p1 p2 I A) fun I27 A28 =>
      zb3 (f_X5_settle F G h0 I27 A28) fun r31 I32 A33 =>
      some (r22, I32, A33)
    )
  )
set_option maxHeartbeats 4000000 in
set_option maxRecDepth 100000 in
theorem c_X5_node (l : Launch) (D : va_G) (cy : Nat → ClassId) {L : List Nat} {K N : Nat → Nat} {F G : Nat → Nat → Nat} (hZ : ZL L K N F G) (h0 : Nat) (p0 : Int32) (p1 : Int32) (p2 : Int32) (k_h0 : K h0 = 5) (I A : zH) {r : Int32} {J' : zH} {B' : zH} (h : f_X5_node F G h0 p0 p1 p2 I A = some (r, J', B')) : ZMi l yX5_node cX5_node 5 (some .int) { frames := 6, cells := 0, slots := 0, locals := 138 } D cy L K N F G [.ref h0, .int p0, .int p1, .int p2] I A r J' B' := by
  refine ZMi.of (nL := 5) hZ rfl rfl (by decide) (Nat.le_of_ble_eq_true rfl) (fun p e s m args below meth c C hr => ?_)
  unfold f_X5_node at h
  refine zr_lv (lv' := [(0, .ref h0), (1, .int p0), (2, .int p1), (3, .int p2)]) C [0, 1, 2, 3] rfl ?_
  refine zr_aload_n C 0 rfl rfl dX5_node_0 ?_
  refine zr_iload_n C 1 rfl rfl dX5_node_1 ?_
  refine zr_iload_n C 2 rfl rfl dX5_node_2 ?_
  obtain ⟨_, h1, h⟩ := zb_e h
  refine zr_callVv (n := 2) (As := [.int p0, .int p1]) C (c_X5_needNode l D cy hZ h0 p0 p1 k_h0 I A h1) wd_464 wd_466 wp_16 wd_1 wd_467 (by decide +kernel) ⟨(Nat.le_of_ble_eq_true rfl), (Nat.le_of_ble_eq_true rfl)⟩ rfl rfl ⟨Nat.le_refl _, Nat.le_refl _⟩ k_h0 (by decide) rfl rfl rfl (Nat.le_of_ble_eq_true rfl) dX5_node_3 ?_
  refine zr_iload_n C 3 rfl rfl dX5_node_6 ?_
  refine zr_iconst (v := (-1)) C (by decide) dX5_node_7 ?_
  refine zr_icmp_eq (tgt := 16) C (by decide) dX5_node_8 (fun hc3 => ?_) (fun hc3 => ?_)
  · have h := zif_t hc3 h
    refine zr_aload_n C 0 rfl rfl dX5_node_16 ?_
    refine zr_get (ci := 5) (k := 5) (v := .ref (F h0 5)) C k_h0 (by decide) rfl zinX5 (by decide) wd_163 rfl dX5_node_17 ?_
    refine zr_iload_n C 1 rfl rfl dX5_node_20 ?_
    obtain ⟨hc4, h⟩ := zck_e h
    refine zr_ald9 C (zt55 hZ k_h0).1 (zt55 hZ k_h0).2 hc4 dX5_node_21 ?_
    obtain ⟨r5, h6, h⟩ := zb_e h
    refine zr_callVi (n := 0) (As := []) C (c_X3_firstFreeNode l D cy hZ (G (F h0 5) p0.toNatClampNeg) (zt9 hZ (zt55 hZ k_h0).1 (z_ix (zt55 hZ k_h0).2 hc4)) I A h6) wd_478 wd_479 wd_480 wd_6 wd_481 (by decide +kernel) ⟨(Nat.le_of_ble_eq_true rfl), (Nat.le_of_ble_eq_true rfl)⟩ rfl rfl ⟨Nat.le_refl _, Nat.le_refl _⟩ (zt9 hZ (zt55 hZ k_h0).1 (z_ix (zt55 hZ k_h0).2 hc4)) (by decide) rfl rfl rfl (Nat.le_of_ble_eq_true rfl) dX5_node_22 ?_
    refine zr_istore (lv' := [(4, .int r5), (0, .ref h0), (1, .int p0), (2, .int p1), (3, .int p2)]) C (by decide) rfl dX5_node_25 ?_
    refine zr_iload C 0 rfl dX5_node_27 ?_
    refine zr_iconst (v := (-1)) C (by decide) dX5_node_29 ?_
    refine zr_icmp_ne (tgt := 43) C (by decide) dX5_node_30 (fun hc8 => ?_) (fun hc8 => ?_)
    · have h := zif_f hc8 h
      refine zr_aload_n C 1 rfl rfl dX5_node_43 ?_
      refine zr_get (ci := 5) (k := 5) (v := .ref (F h0 5)) C k_h0 (by decide) rfl zinX5 (by decide) wd_163 rfl dX5_node_44 ?_
      refine zr_iload_n C 2 rfl rfl dX5_node_47 ?_
      obtain ⟨hc9, h⟩ := zck_e h
      refine zr_ald9 C (zt55 hZ k_h0).1 (zt55 hZ k_h0).2 hc9 dX5_node_48 ?_
      refine zr_iload C 0 rfl dX5_node_49 ?_
      refine zr_iload_n C 3 rfl rfl dX5_node_51 ?_
      refine zr_iload_n C 4 rfl rfl dX5_node_52 ?_
      obtain ⟨I10, A11, h12, h⟩ := zb2_e h
      refine zr_callVv (n := 3) (As := [.int r5, .int p1, .int p2]) C (c_X3_grow l D cy hZ (G (F h0 5) p0.toNatClampNeg) r5 p1 p2 (zt9 hZ (zt55 hZ k_h0).1 (z_ix (zt55 hZ k_h0).2 hc9)) I A h12) wd_483 wd_484 wd_485 wd_6 wd_486 (by decide +kernel) ⟨(Nat.le_of_ble_eq_true rfl), (Nat.le_of_ble_eq_true rfl)⟩ rfl rfl ⟨Nat.le_refl _, Nat.le_refl _⟩ (zt9 hZ (zt55 hZ k_h0).1 (z_ix (zt55 hZ k_h0).2 hc9)) (by decide) rfl rfl rfl (Nat.le_of_ble_eq_true rfl) dX5_node_53 ?_
      refine zr_aload_n C 1 rfl rfl dX5_node_56 ?_
      obtain ⟨r14, I15, A16, h17, h⟩ := zb3_e h
      refine zr_callVi (n := 0) (As := []) C (c_X5_settle l D cy hZ h0 k_h0 I10 A11 h17) wd_302 wd_304 wp_6 wd_1 wd_305 (by decide +kernel) ⟨(Nat.le_of_ble_eq_true rfl), (Nat.le_of_ble_eq_true rfl)⟩ rfl rfl ⟨Nat.le_refl _, Nat.le_refl _⟩ k_h0 (by decide) rfl rfl rfl (Nat.le_of_ble_eq_true rfl) dX5_node_57 ?_
      refine zr_pop C rfl dX5_node_60 ?_
      refine zr_iload C 0 rfl dX5_node_61 ?_
      cases zso h
      exact zr_iret C hr dX5_node_63
    · have h := zif_t hc8 h
      exact zno h
  · have h := zif_f hc3 h
    refine zr_aload_n C 0 rfl rfl dX5_node_11 ?_
    refine zr_iload_n C 3 rfl rfl dX5_node_12 ?_
    obtain ⟨_, h19, h⟩ := zb_e h
    refine zr_callVv (n := 1) (As := [.int p2]) C (c_X5_needPiece l D cy hZ h0 p2 k_h0 I A h19) wd_368 wd_370 wp_10 wd_1 wd_371 (by decide +kernel) ⟨(Nat.le_of_ble_eq_true rfl), (Nat.le_of_ble_eq_true rfl)⟩ rfl rfl ⟨Nat.le_refl _, Nat.le_refl _⟩ k_h0 (by decide) rfl rfl rfl (Nat.le_of_ble_eq_true rfl) dX5_node_13 ?_
    refine zr_aload_n C 0 rfl rfl dX5_node_16 ?_
    refine zr_get (ci := 5) (k := 5) (v := .ref (F h0 5)) C k_h0 (by decide) rfl zinX5 (by decide) wd_163 rfl dX5_node_17 ?_
    refine zr_iload_n C 1 rfl rfl dX5_node_20 ?_
    obtain ⟨hc21, h⟩ := zck_e h
    refine zr_ald9 C (zt55 hZ k_h0).1 (zt55 hZ k_h0).2 hc21 dX5_node_21 ?_
    obtain ⟨r22, h23, h⟩ := zb_e h
    refine zr_callVi (n := 0) (As := []) C (c_X3_firstFreeNode l D cy hZ (G (F h0 5) p0.toNatClampNeg) (zt9 hZ (zt55 hZ k_h0).1 (z_ix (zt55 hZ k_h0).2 hc21)) I A h23) wd_478 wd_479 wd_480 wd_6 wd_481 (by decide +kernel) ⟨(Nat.le_of_ble_eq_true rfl), (Nat.le_of_ble_eq_true rfl)⟩ rfl rfl ⟨Nat.le_refl _, Nat.le_refl _⟩ (zt9 hZ (zt55 hZ k_h0).1 (z_ix (zt55 hZ k_h0).2 hc21)) (by decide) rfl rfl rfl (Nat.le_of_ble_eq_true rfl) dX5_node_22 ?_
    refine zr_istore (lv' := [(4, .int r22), (0, .ref h0), (1, .int p0), (2, .int p1), (3, .int p2)]) C (by decide) rfl dX5_node_25 ?_
    refine zr_iload C 0 rfl dX5_node_27 ?_
    refine zr_iconst (v := (-1)) C (by decide) dX5_node_29 ?_
    refine zr_icmp_ne (tgt := 43) C (by decide) dX5_node_30 (fun hc25 => ?_) (fun hc25 => ?_)
    · have h := zif_f hc25 h
      refine zr_aload_n C 1 rfl rfl dX5_node_43 ?_
      refine zr_get (ci := 5) (k := 5) (v := .ref (F h0 5)) C k_h0 (by decide) rfl zinX5 (by decide) wd_163 rfl dX5_node_44 ?_
      refine zr_iload_n C 2 rfl rfl dX5_node_47 ?_
      obtain ⟨hc26, h⟩ := zck_e h
      refine zr_ald9 C (zt55 hZ k_h0).1 (zt55 hZ k_h0).2 hc26 dX5_node_48 ?_
      refine zr_iload C 0 rfl dX5_node_49 ?_
      refine zr_iload_n C 3 rfl rfl dX5_node_51 ?_
      refine zr_iload_n C 4 rfl rfl dX5_node_52 ?_
      obtain ⟨I27, A28, h29, h⟩ := zb2_e h
      refine zr_callVv (n := 3) (As := [.int r22, .int p1, .int p2]) C (c_X3_grow l D cy hZ (G (F h0 5) p0.toNatClampNeg) r22 p1 p2 (zt9 hZ (zt55 hZ k_h0).1 (z_ix (zt55 hZ k_h0).2 hc26)) I A h29) wd_483 wd_484 wd_485 wd_6 wd_486 (by decide +kernel) ⟨(Nat.le_of_ble_eq_true rfl), (Nat.le_of_ble_eq_true rfl)⟩ rfl rfl ⟨Nat.le_refl _, Nat.le_refl _⟩ (zt9 hZ (zt55 hZ k_h0).1 (z_ix (zt55 hZ k_h0).2 hc26)) (by decide) rfl rfl rfl (Nat.le_of_ble_eq_true rfl) dX5_node_53 ?_
      refine zr_aload_n C 1 rfl rfl dX5_node_56 ?_
      obtain ⟨r31, I32, A33, h34, h⟩ := zb3_e h
      refine zr_callVi (n := 0) (As := []) C (c_X5_settle l D cy hZ h0 k_h0 I27 A28 h34) wd_302 wd_304 wp_6 wd_1 wd_305 (by decide +kernel) ⟨(Nat.le_of_ble_eq_true rfl), (Nat.le_of_ble_eq_true rfl)⟩ rfl rfl ⟨Nat.le_refl _, Nat.le_refl _⟩ k_h0 (by decide) rfl rfl rfl (Nat.le_of_ble_eq_true rfl) dX5_node_57 ?_
      refine zr_pop C rfl dX5_node_60 ?_
      refine zr_iload C 0 rfl dX5_node_61 ?_
      cases zso h
      exact zr_iret C hr dX5_node_63
    · have h := zif_t hc25 h
      exact zno h
end
section
def f_X5_replace (F G : Nat → Nat → Nat) (h0 : Nat) (p0 : Int32) (p1 : Int32) (p2 : Int32) (I A : zH) : Option (Int32 × zH × zH) :=
  zb (f_X5_needNode F G h0 p0 p1 I A) fun _ =>
  if p2 = (-1) then (
    zck (¬ (p0 < 0 ∨ 5 ≤ p0.toNatClampNeg)) <|
    zck (¬ (p1 < 0 ∨ 10 ≤ p1.toNatClampNeg)) <|
    zck (¬ (p1 < 0 ∨ 10 ≤ p1.toNatClampNeg)) <|
    zlet (up2 A (F (G (F h0 5) p0.toNatClampNeg) 2) p1.toNatClampNeg p2) fun A7 =>
    zb3 (f_X5_settle F G h0 I A7) fun r8 I9 A10 =>
    some (A (F (G (F h0 5) p0.toNatClampNeg) 2) p1.toNatClampNeg, I9, A10)
  ) else (
    zb (f_X5_needPiece F G h0 p2 I A) fun _ =>
    zck (¬ (p0 < 0 ∨ 5 ≤ p0.toNatClampNeg)) <|
    zck (¬ (p1 < 0 ∨ 10 ≤ p1.toNatClampNeg)) <|
    zck (¬ (p1 < 0 ∨ 10 ≤ p1.toNatClampNeg)) <|
    zlet (up2 A (F (G (F h0 5) p0.toNatClampNeg) 2) p1.toNatClampNeg p2) fun A18 =>
    zb3 (f_X5_settle F G h0 I A18) fun r19 I20 A21 =>
    some (A (F (G (F h0 5) p0.toNatClampNeg) 2) p1.toNatClampNeg, I20, A21)
  )
set_option maxHeartbeats 4000000 in
set_option maxRecDepth 100000 in
theorem c_X5_replace (l : Launch) (D : va_G) (cy : Nat → ClassId) {L : List Nat} {K N : Nat → Nat} {F G : Nat → Nat → Nat} (hZ : ZL L K N F G) (h0 : Nat) (p0 : Int32) (p1 : Int32) (p2 : Int32) (k_h0 : K h0 = 5) (I A : zH) {r : Int32} {J' : zH} {B' : zH} (h : f_X5_replace F G h0 p0 p1 p2 I A = some (r, J', B')) : ZMi l yX5_replace cX5_replace 6 (some .int) { frames := 6, cells := 0, slots := 0, locals := 138 } D cy L K N F G [.ref h0, .int p0, .int p1, .int p2] I A r J' B' := by
  refine ZMi.of (nL := 6) hZ rfl rfl (by decide) (Nat.le_of_ble_eq_true rfl) (fun p e s m args below meth c C hr => ?_)
  unfold f_X5_replace at h
  refine zr_lv (lv' := [(0, .ref h0), (1, .int p0), (2, .int p1), (3, .int p2)]) C [0, 1, 2, 3] rfl ?_
  refine zr_aload_n C 0 rfl rfl dX5_replace_0 ?_
  refine zr_iload_n C 1 rfl rfl dX5_replace_1 ?_
  refine zr_iload_n C 2 rfl rfl dX5_replace_2 ?_
  obtain ⟨_, h1, h⟩ := zb_e h
  refine zr_callVv (n := 2) (As := [.int p0, .int p1]) C (c_X5_needNode l D cy hZ h0 p0 p1 k_h0 I A h1) wd_464 wd_466 wp_16 wd_1 wd_467 (by decide +kernel) ⟨(Nat.le_of_ble_eq_true rfl), (Nat.le_of_ble_eq_true rfl)⟩ rfl rfl ⟨Nat.le_refl _, Nat.le_refl _⟩ k_h0 (by decide) rfl rfl rfl (Nat.le_of_ble_eq_true rfl) dX5_replace_3 ?_
  refine zr_iload_n C 3 rfl rfl dX5_replace_6 ?_
  refine zr_iconst (v := (-1)) C (by decide) dX5_replace_7 ?_
  refine zr_icmp_eq (tgt := 16) C (by decide) dX5_replace_8 (fun hc3 => ?_) (fun hc3 => ?_)
  · have h := zif_t hc3 h
    refine zr_aload_n C 0 rfl rfl dX5_replace_16 ?_
    refine zr_get (ci := 5) (k := 5) (v := .ref (F h0 5)) C k_h0 (by decide) rfl zinX5 (by decide) wd_163 rfl dX5_replace_17 ?_
    refine zr_iload_n C 1 rfl rfl dX5_replace_20 ?_
    obtain ⟨hc4, h⟩ := zck_e h
    refine zr_ald9 C (zt55 hZ k_h0).1 (zt55 hZ k_h0).2 hc4 dX5_replace_21 ?_
    refine zr_get (ci := 3) (k := 2) (v := .ref (F (G (F h0 5) p0.toNatClampNeg) 2)) C (zt9 hZ (zt55 hZ k_h0).1 (z_ix (zt55 hZ k_h0).2 hc4)) (by decide) rfl zinX3 (by decide) wd_131 rfl dX5_replace_22 ?_
    refine zr_astore (lv' := [(4, .ref (F (G (F h0 5) p0.toNatClampNeg) 2)), (0, .ref h0), (1, .int p0), (2, .int p1), (3, .int p2)]) C (by decide) rfl dX5_replace_25 ?_
    refine zr_aload C 0 rfl dX5_replace_27 ?_
    refine zr_iload_n C 3 rfl rfl dX5_replace_29 ?_
    obtain ⟨hc5, h⟩ := zck_e h
    refine zr_iald C (zt3 hZ (zt9 hZ (zt55 hZ k_h0).1 (z_ix (zt55 hZ k_h0).2 hc4)) 2 (by decide)).1 (zt3 hZ (zt9 hZ (zt55 hZ k_h0).1 (z_ix (zt55 hZ k_h0).2 hc4)) 2 (by decide)).2 hc5 dX5_replace_30 ?_
    refine zr_istore (lv' := [(5, .int (A (F (G (F h0 5) p0.toNatClampNeg) 2) p1.toNatClampNeg)), (4, .ref (F (G (F h0 5) p0.toNatClampNeg) 2)), (0, .ref h0), (1, .int p0), (2, .int p1), (3, .int p2)]) C (by decide) rfl dX5_replace_31 ?_
    refine zr_aload C 1 rfl dX5_replace_33 ?_
    refine zr_iload_n C 4 rfl rfl dX5_replace_35 ?_
    refine zr_iload_n C 5 rfl rfl dX5_replace_36 ?_
    obtain ⟨hc6, h⟩ := zck_e h
    refine zr_iast C (zt3 hZ (zt9 hZ (zt55 hZ k_h0).1 (z_ix (zt55 hZ k_h0).2 hc4)) 2 (by decide)).1 (zt3 hZ (zt9 hZ (zt55 hZ k_h0).1 (z_ix (zt55 hZ k_h0).2 hc4)) 2 (by decide)).2 hc6 dX5_replace_37 ?_
    obtain ⟨A7, eA7, h⟩ := zlet_e h
    rw [← eA7]
    refine zr_aload_n C 2 rfl rfl dX5_replace_38 ?_
    obtain ⟨r8, I9, A10, h11, h⟩ := zb3_e h
    refine zr_callVi (n := 0) (As := []) C (c_X5_settle l D cy hZ h0 k_h0 I A7 h11) wd_302 wd_304 wp_6 wd_1 wd_305 (by decide +kernel) ⟨(Nat.le_of_ble_eq_true rfl), (Nat.le_of_ble_eq_true rfl)⟩ rfl rfl ⟨Nat.le_refl _, Nat.le_refl _⟩ k_h0 (by decide) rfl rfl rfl (Nat.le_of_ble_eq_true rfl) dX5_replace_39 ?_
    refine zr_pop C rfl dX5_replace_42 ?_
    refine zr_iload C 0 rfl dX5_replace_43 ?_
    cases zso h
    exact zr_iret C hr dX5_replace_45
  · have h := zif_f hc3 h
    refine zr_aload_n C 0 rfl rfl dX5_replace_11 ?_
    refine zr_iload_n C 3 rfl rfl dX5_replace_12 ?_
    obtain ⟨_, h13, h⟩ := zb_e h
    refine zr_callVv (n := 1) (As := [.int p2]) C (c_X5_needPiece l D cy hZ h0 p2 k_h0 I A h13) wd_368 wd_370 wp_10 wd_1 wd_371 (by decide +kernel) ⟨(Nat.le_of_ble_eq_true rfl), (Nat.le_of_ble_eq_true rfl)⟩ rfl rfl ⟨Nat.le_refl _, Nat.le_refl _⟩ k_h0 (by decide) rfl rfl rfl (Nat.le_of_ble_eq_true rfl) dX5_replace_13 ?_
    refine zr_aload_n C 0 rfl rfl dX5_replace_16 ?_
    refine zr_get (ci := 5) (k := 5) (v := .ref (F h0 5)) C k_h0 (by decide) rfl zinX5 (by decide) wd_163 rfl dX5_replace_17 ?_
    refine zr_iload_n C 1 rfl rfl dX5_replace_20 ?_
    obtain ⟨hc15, h⟩ := zck_e h
    refine zr_ald9 C (zt55 hZ k_h0).1 (zt55 hZ k_h0).2 hc15 dX5_replace_21 ?_
    refine zr_get (ci := 3) (k := 2) (v := .ref (F (G (F h0 5) p0.toNatClampNeg) 2)) C (zt9 hZ (zt55 hZ k_h0).1 (z_ix (zt55 hZ k_h0).2 hc15)) (by decide) rfl zinX3 (by decide) wd_131 rfl dX5_replace_22 ?_
    refine zr_astore (lv' := [(4, .ref (F (G (F h0 5) p0.toNatClampNeg) 2)), (0, .ref h0), (1, .int p0), (2, .int p1), (3, .int p2)]) C (by decide) rfl dX5_replace_25 ?_
    refine zr_aload C 0 rfl dX5_replace_27 ?_
    refine zr_iload_n C 3 rfl rfl dX5_replace_29 ?_
    obtain ⟨hc16, h⟩ := zck_e h
    refine zr_iald C (zt3 hZ (zt9 hZ (zt55 hZ k_h0).1 (z_ix (zt55 hZ k_h0).2 hc15)) 2 (by decide)).1 (zt3 hZ (zt9 hZ (zt55 hZ k_h0).1 (z_ix (zt55 hZ k_h0).2 hc15)) 2 (by decide)).2 hc16 dX5_replace_30 ?_
    refine zr_istore (lv' := [(5, .int (A (F (G (F h0 5) p0.toNatClampNeg) 2) p1.toNatClampNeg)), (4, .ref (F (G (F h0 5) p0.toNatClampNeg) 2)), (0, .ref h0), (1, .int p0), (2, .int p1), (3, .int p2)]) C (by decide) rfl dX5_replace_31 ?_
    refine zr_aload C 1 rfl dX5_replace_33 ?_
    refine zr_iload_n C 4 rfl rfl dX5_replace_35 ?_
    refine zr_iload_n C 5 rfl rfl dX5_replace_36 ?_
    obtain ⟨hc17, h⟩ := zck_e h
    refine zr_iast C (zt3 hZ (zt9 hZ (zt55 hZ k_h0).1 (z_ix (zt55 hZ k_h0).2 hc15)) 2 (by decide)).1 (zt3 hZ (zt9 hZ (zt55 hZ k_h0).1 (z_ix (zt55 hZ k_h0).2 hc15)) 2 (by decide)).2 hc17 dX5_replace_37 ?_
    obtain ⟨A18, eA18, h⟩ := zlet_e h
    rw [← eA18]
    refine zr_aload_n C 2 rfl rfl dX5_replace_38 ?_
    obtain ⟨r19, I20, A21, h22, h⟩ := zb3_e h
    refine zr_callVi (n := 0) (As := []) C (c_X5_settle l D cy hZ h0 k_h0 I A18 h22) wd_302 wd_304 wp_6 wd_1 wd_305 (by decide +kernel) ⟨(Nat.le_of_ble_eq_true rfl), (Nat.le_of_ble_eq_true rfl)⟩ rfl rfl ⟨Nat.le_refl _, Nat.le_refl _⟩ k_h0 (by decide) rfl rfl rfl (Nat.le_of_ble_eq_true rfl) dX5_replace_39 ?_
    refine zr_pop C rfl dX5_replace_42 ?_
    refine zr_iload C 0 rfl dX5_replace_43 ?_
    cases zso h
    exact zr_iret C hr dX5_replace_45

def f_X5_notice (F G : Nat → Nat → Nat) (h0 : Nat) (p0 : Int32) (p1 : Int32) (p2 : Int32) (I A : zH) : Option (Int32 × zH × zH) :=
  zb (f_X5_needProject F G h0 p0 I A) fun _ =>
  if p1 < 0 then (
    none
  ) else (
    if p1 < 5 then (
      zck (¬ (p0 < 0 ∨ 5 ≤ p0.toNatClampNeg)) <|
      zb (f_X5_hasBit F G (I (G (F h0 5) p0.toNatClampNeg) 5) p1 I A) fun r6 =>
      if p2 = 0 then (
        zlet (up2 I (G (F h0 5) p0.toNatClampNeg) 5 ((I (G (F h0 5) p0.toNatClampNeg) 5) &&& (((1 : Int32) <<< (p1 &&& 31)) ^^^ (-1)))) fun I10 =>
        zb3 (f_X5_settle F G h0 I10 A) fun r11 I12 A13 =>
        zck (r6 = 0 ∨ r6 = 1) <|
        some (r6, I12, A13)
      ) else (
        zlet (up2 I (G (F h0 5) p0.toNatClampNeg) 5 ((I (G (F h0 5) p0.toNatClampNeg) 5) ||| ((1 : Int32) <<< (p1 &&& 31)))) fun I17 =>
        zb3 (f_X5_settle F G h0 I17 A) fun r18 I19 A20 =>
        zck (r6 = 0 ∨ r6 = 1) <|
        some (r6, I19, A20)
      )
    ) else (
      none
    )
  )
set_option maxHeartbeats 4000000 in
set_option maxRecDepth 100000 in
theorem c_X5_notice (l : Launch) (D : va_G) (cy : Nat → ClassId) {L : List Nat} {K N : Nat → Nat} {F G : Nat → Nat → Nat} (hZ : ZL L K N F G) (h0 : Nat) (p0 : Int32) (p1 : Int32) (p2 : Int32) (k_h0 : K h0 = 5) (I A : zH) {r : Int32} {J' : zH} {B' : zH} (h : f_X5_notice F G h0 p0 p1 p2 I A = some (r, J', B')) : ZMi l yX5_notice cX5_notice 6 (some .boolean) { frames := 6, cells := 0, slots := 0, locals := 138 } D cy L K N F G [.ref h0, .int p0, .int p1, .int p2] I A r J' B' := by
  refine ZMi.of (nL := 6) hZ rfl rfl (by decide) (Nat.le_of_ble_eq_true rfl) (fun p e s m args below meth c C hr => ?_)
  unfold f_X5_notice at h
  refine zr_lv (lv' := [(0, .ref h0), (1, .int p0), (2, .int p1), (3, .int p2)]) C [0, 1, 2, 3] rfl ?_
  refine zr_aload_n C 0 rfl rfl dX5_notice_0 ?_
  refine zr_iload_n C 1 rfl rfl dX5_notice_1 ?_
  obtain ⟨_, h1, h⟩ := zb_e h
  refine zr_callVv (n := 1) (As := [.int p0]) C (c_X5_needProject l D cy hZ h0 p0 k_h0 I A h1) wd_468 wd_470 wp_17 wd_1 wd_471 (by decide +kernel) ⟨(Nat.le_of_ble_eq_true rfl), (Nat.le_of_ble_eq_true rfl)⟩ rfl rfl ⟨Nat.le_refl _, Nat.le_refl _⟩ k_h0 (by decide) rfl rfl rfl (Nat.le_of_ble_eq_true rfl) dX5_notice_2 ?_
  refine zr_iload_n C 2 rfl rfl dX5_notice_5 ?_
  refine zr_if_lt (tgt := 14) C (by decide) dX5_notice_6 (fun hc3 => ?_) (fun hc3 => ?_)
  · have h := zif_t hc3 h
    exact zno h
  · have h := zif_f hc3 h
    refine zr_iload_n C 2 rfl rfl dX5_notice_9 ?_
    refine zr_iconst (v := 5) C (by decide) dX5_notice_10 ?_
    refine zr_icmp_lt (tgt := 24) C (by decide) dX5_notice_11 (fun hc4 => ?_) (fun hc4 => ?_)
    · have h := zif_t hc4 h
      refine zr_aload_n C 0 rfl rfl dX5_notice_24 ?_
      refine zr_get (ci := 5) (k := 5) (v := .ref (F h0 5)) C k_h0 (by decide) rfl zinX5 (by decide) wd_163 rfl dX5_notice_25 ?_
      refine zr_iload_n C 1 rfl rfl dX5_notice_28 ?_
      obtain ⟨hc5, h⟩ := zck_e h
      refine zr_ald9 C (zt55 hZ k_h0).1 (zt55 hZ k_h0).2 hc5 dX5_notice_29 ?_
      refine zr_astore (lv' := [(4, .ref (G (F h0 5) p0.toNatClampNeg)), (0, .ref h0), (1, .int p0), (2, .int p1), (3, .int p2)]) C (by decide) rfl dX5_notice_30 ?_
      refine zr_aload C 0 rfl dX5_notice_32 ?_
      refine zr_get (ci := 3) (k := 5) (v := .int (I (G (F h0 5) p0.toNatClampNeg) 5)) C (zt9 hZ (zt55 hZ k_h0).1 (z_ix (zt55 hZ k_h0).2 hc5)) (by decide) rfl zinX3 (by decide) wd_136 rfl dX5_notice_34 ?_
      refine zr_iload_n C 3 rfl rfl dX5_notice_37 ?_
      obtain ⟨r6, h7, h⟩ := zb_e h
      refine zr_callSi (n := 2) (As := [.int (I (G (F h0 5) p0.toNatClampNeg) 5), .int p1]) C (c_X5_hasBit l D cy hZ (I (G (F h0 5) p0.toNatClampNeg) 5) p1 I A h7) wd_392 wd_323 wd_1 wd_324 (by decide +kernel) ⟨(Nat.le_of_ble_eq_true rfl), (Nat.le_of_ble_eq_true rfl)⟩ rfl rfl ⟨Nat.le_refl _, Nat.le_refl _⟩ rfl rfl (Nat.le_of_ble_eq_true rfl) dX5_notice_38 ?_
      refine zr_istore (lv' := [(5, .int r6), (4, .ref (G (F h0 5) p0.toNatClampNeg)), (0, .ref h0), (1, .int p0), (2, .int p1), (3, .int p2)]) C (by decide) rfl dX5_notice_41 ?_
      refine zr_iload_n C 5 rfl rfl dX5_notice_43 ?_
      refine zr_if_eq (tgt := 63) C (by decide) dX5_notice_44 (fun hc9 => ?_) (fun hc9 => ?_)
      · have h := zif_t hc9 h
        refine zr_aload C 1 rfl dX5_notice_63 ?_
        refine zr_dup C rfl dX5_notice_65 ?_
        refine zr_get (ci := 3) (k := 5) (v := .int (I (G (F h0 5) p0.toNatClampNeg) 5)) C (zt9 hZ (zt55 hZ k_h0).1 (z_ix (zt55 hZ k_h0).2 hc5)) (by decide) rfl zinX3 (by decide) wd_136 rfl dX5_notice_66 ?_
        refine zr_iconst (v := 1) C (by decide) dX5_notice_69 ?_
        refine zr_iload_n C 4 rfl rfl dX5_notice_70 ?_
        refine zr_ishl C dX5_notice_71 ?_
        refine zr_iconst (v := (-1)) C (by decide) dX5_notice_72 ?_
        refine zr_ixor C dX5_notice_73 ?_
        refine zr_iand C dX5_notice_74 ?_
        refine zr_put (ci := 3) (k := 5) (ty := .int) C tyX3 (zt9 hZ (zt55 hZ k_h0).1 (z_ix (zt55 hZ k_h0).2 hc5)) (by decide) rfl zinX3 tyX3_ok nmX3 (by decide) wd_136 rfl (by decide +kernel) rfl rfl (Nat.le_of_ble_eq_true rfl) (zset_3_5 F _ _ _) dX5_notice_75 ?_
        obtain ⟨I10, eI10, h⟩ := zlet_e h
        rw [← eI10]
        refine zr_aload_n C 2 rfl rfl dX5_notice_78 ?_
        obtain ⟨r11, I12, A13, h14, h⟩ := zb3_e h
        refine zr_callVi (n := 0) (As := []) C (c_X5_settle l D cy hZ h0 k_h0 I10 A h14) wd_302 wd_304 wp_6 wd_1 wd_305 (by decide +kernel) ⟨(Nat.le_of_ble_eq_true rfl), (Nat.le_of_ble_eq_true rfl)⟩ rfl rfl ⟨Nat.le_refl _, Nat.le_refl _⟩ k_h0 (by decide) rfl rfl rfl (Nat.le_of_ble_eq_true rfl) dX5_notice_79 ?_
        refine zr_pop C rfl dX5_notice_82 ?_
        refine zr_iload C 0 rfl dX5_notice_83 ?_
        obtain ⟨hc16, h⟩ := zck_e h
        cases zso h
        exact zr_zret C hr (z_nb hc16) dX5_notice_85
      · have h := zif_f hc9 h
        refine zr_aload C 1 rfl dX5_notice_47 ?_
        refine zr_dup C rfl dX5_notice_49 ?_
        refine zr_get (ci := 3) (k := 5) (v := .int (I (G (F h0 5) p0.toNatClampNeg) 5)) C (zt9 hZ (zt55 hZ k_h0).1 (z_ix (zt55 hZ k_h0).2 hc5)) (by decide) rfl zinX3 (by decide) wd_136 rfl dX5_notice_50 ?_
        refine zr_iconst (v := 1) C (by decide) dX5_notice_53 ?_
        refine zr_iload_n C 4 rfl rfl dX5_notice_54 ?_
        refine zr_ishl C dX5_notice_55 ?_
        refine zr_ior C dX5_notice_56 ?_
        refine zr_put (ci := 3) (k := 5) (ty := .int) C tyX3 (zt9 hZ (zt55 hZ k_h0).1 (z_ix (zt55 hZ k_h0).2 hc5)) (by decide) rfl zinX3 tyX3_ok nmX3 (by decide) wd_136 rfl (by decide +kernel) rfl rfl (Nat.le_of_ble_eq_true rfl) (zset_3_5 F _ _ _) dX5_notice_57 ?_
        obtain ⟨I17, eI17, h⟩ := zlet_e h
        rw [← eI17]
        refine zr_goto (tgt := 78) C (by decide) dX5_notice_60 ?_
        refine zr_aload_n C 2 rfl rfl dX5_notice_78 ?_
        obtain ⟨r18, I19, A20, h21, h⟩ := zb3_e h
        refine zr_callVi (n := 0) (As := []) C (c_X5_settle l D cy hZ h0 k_h0 I17 A h21) wd_302 wd_304 wp_6 wd_1 wd_305 (by decide +kernel) ⟨(Nat.le_of_ble_eq_true rfl), (Nat.le_of_ble_eq_true rfl)⟩ rfl rfl ⟨Nat.le_refl _, Nat.le_refl _⟩ k_h0 (by decide) rfl rfl rfl (Nat.le_of_ble_eq_true rfl) dX5_notice_79 ?_
        refine zr_pop C rfl dX5_notice_82 ?_
        refine zr_iload C 0 rfl dX5_notice_83 ?_
        obtain ⟨hc23, h⟩ := zck_e h
        cases zso h
        exact zr_zret C hr (z_nb hc23) dX5_notice_85
    · have h := zif_f hc4 h
      exact zno h

def f_X5_ship (F G : Nat → Nat → Nat) (h0 : Nat) (p0 : Int32) (I A : zH) : Option (Int32 × zH) :=
  zb (f_X5_needProject F G h0 p0 I A) fun _ =>
  zck (¬ (p0 < 0 ∨ 5 ≤ p0.toNatClampNeg)) <|
  if (I (G (F h0 5) p0.toNatClampNeg) 6) = 1 then (
    none
  ) else (
    zb (f_X3_isInOrder F G (G (F h0 5) p0.toNatClampNeg) (F h0 6) I A) fun r5 =>
    if r5 = 0 then (
      none
    ) else (
      zlet (up2 I (G (F h0 5) p0.toNatClampNeg) 6 1) fun I9 =>
      some (I9 (G (F h0 5) p0.toNatClampNeg) 7, I9)
    )
  )
set_option maxHeartbeats 4000000 in
set_option maxRecDepth 100000 in
theorem c_X5_ship (l : Launch) (D : va_G) (cy : Nat → ClassId) {L : List Nat} {K N : Nat → Nat} {F G : Nat → Nat → Nat} (hZ : ZL L K N F G) (h0 : Nat) (p0 : Int32) (k_h0 : K h0 = 5) (I A : zH) {r : Int32} {J' : zH} (h : f_X5_ship F G h0 p0 I A = some (r, J')) : ZMi l yX5_ship cX5_ship 3 (some .int) { frames := 4, cells := 0, slots := 0, locals := 95 } D cy L K N F G [.ref h0, .int p0] I A r J' A := by
  refine ZMi.of (nL := 3) hZ rfl rfl (by decide) (Nat.le_of_ble_eq_true rfl) (fun p e s m args below meth c C hr => ?_)
  unfold f_X5_ship at h
  refine zr_lv (lv' := [(0, .ref h0), (1, .int p0)]) C [0, 1] rfl ?_
  refine zr_aload_n C 0 rfl rfl dX5_ship_0 ?_
  refine zr_iload_n C 1 rfl rfl dX5_ship_1 ?_
  obtain ⟨_, h1, h⟩ := zb_e h
  refine zr_callVv (n := 1) (As := [.int p0]) C (c_X5_needProject l D cy hZ h0 p0 k_h0 I A h1) wd_468 wd_470 wp_17 wd_1 wd_471 (by decide +kernel) ⟨(Nat.le_of_ble_eq_true rfl), (Nat.le_of_ble_eq_true rfl)⟩ rfl rfl ⟨Nat.le_refl _, Nat.le_refl _⟩ k_h0 (by decide) rfl rfl rfl (Nat.le_of_ble_eq_true rfl) dX5_ship_2 ?_
  refine zr_aload_n C 0 rfl rfl dX5_ship_5 ?_
  refine zr_get (ci := 5) (k := 5) (v := .ref (F h0 5)) C k_h0 (by decide) rfl zinX5 (by decide) wd_163 rfl dX5_ship_6 ?_
  refine zr_iload_n C 1 rfl rfl dX5_ship_9 ?_
  obtain ⟨hc3, h⟩ := zck_e h
  refine zr_ald9 C (zt55 hZ k_h0).1 (zt55 hZ k_h0).2 hc3 dX5_ship_10 ?_
  refine zr_astore_n (lv' := [(2, .ref (G (F h0 5) p0.toNatClampNeg)), (0, .ref h0), (1, .int p0)]) C rfl (by decide) rfl dX5_ship_11 ?_
  refine zr_aload_n C 0 rfl rfl dX5_ship_12 ?_
  refine zr_get (ci := 3) (k := 6) (v := .int (I (G (F h0 5) p0.toNatClampNeg) 6)) C (zt9 hZ (zt55 hZ k_h0).1 (z_ix (zt55 hZ k_h0).2 hc3)) (by decide) rfl zinX3 (by decide) wd_138 rfl dX5_ship_13 ?_
  refine zr_iconst (v := 1) C (by decide) dX5_ship_16 ?_
  refine zr_icmp_ne (tgt := 30) C (by decide) dX5_ship_17 (fun hc4 => ?_) (fun hc4 => ?_)
  · have h := zif_f hc4 h
    refine zr_aload_n C 0 rfl rfl dX5_ship_30 ?_
    refine zr_aload_n C 1 rfl rfl dX5_ship_31 ?_
    refine zr_get (ci := 5) (k := 6) (v := .ref (F h0 6)) C k_h0 (by decide) rfl zinX5 (by decide) wd_164 rfl dX5_ship_32 ?_
    obtain ⟨r5, h6, h⟩ := zb_e h
    refine zr_callVi (n := 1) (As := [.ref (F h0 6)]) C (c_X3_isInOrder l D cy hZ (G (F h0 5) p0.toNatClampNeg) (F h0 6) (zt9 hZ (zt55 hZ k_h0).1 (z_ix (zt55 hZ k_h0).2 hc3)) (zt56 hZ k_h0) I A h6) wd_497 wd_330 wd_331 wd_6 wd_332 (by decide +kernel) ⟨(Nat.le_of_ble_eq_true rfl), (Nat.le_of_ble_eq_true rfl)⟩ rfl rfl ⟨Nat.le_refl _, Nat.le_refl _⟩ (zt9 hZ (zt55 hZ k_h0).1 (z_ix (zt55 hZ k_h0).2 hc3)) (by decide) rfl rfl rfl (Nat.le_of_ble_eq_true rfl) dX5_ship_35 ?_
    refine zr_if_ne (tgt := 51) C (by decide) dX5_ship_38 (fun hc8 => ?_) (fun hc8 => ?_)
    · have h := zif_f hc8 h
      refine zr_aload_n C 0 rfl rfl dX5_ship_51 ?_
      refine zr_iconst (v := 1) C (by decide) dX5_ship_52 ?_
      refine zr_put (ci := 3) (k := 6) (ty := .int) C tyX3 (zt9 hZ (zt55 hZ k_h0).1 (z_ix (zt55 hZ k_h0).2 hc3)) (by decide) rfl zinX3 tyX3_ok nmX3 (by decide) wd_138 rfl (by decide +kernel) rfl rfl (Nat.le_of_ble_eq_true rfl) (zset_3_6 F _ _ _) dX5_ship_53 ?_
      obtain ⟨I9, eI9, h⟩ := zlet_e h
      rw [← eI9]
      refine zr_aload_n C 0 rfl rfl dX5_ship_56 ?_
      refine zr_get (ci := 3) (k := 7) (v := .int (I9 (G (F h0 5) p0.toNatClampNeg) 7)) C (zt9 hZ (zt55 hZ k_h0).1 (z_ix (zt55 hZ k_h0).2 hc3)) (by decide) rfl zinX3 (by decide) wd_140 rfl dX5_ship_57 ?_
      cases zso h
      exact zr_iret C hr dX5_ship_60
    · have h := zif_t hc8 h
      exact zno h
  · have h := zif_t hc4 h
    exact zno h

def g_X5_recalledBy_29 (F G : Nat → Nat → Nat) (v0 : Nat) (v3 : Int32) (v4 : Int32) (I : zH) (A : zH) : Option ((Int32 × Int32) ⊕ (Int32 × Int32)) :=
  if (I v0 10) ≤ v4 then (
    some (.inr (v3, v4))
  ) else (
    zck (¬ (v4 < 0 ∨ 5 ≤ v4.toNatClampNeg)) <|
    zb (f_X3_isRecalledUnder F G (G (F v0 5) v4.toNatClampNeg) (F v0 7) I A) fun r3 =>
    if r3 = 0 then (
      some (.inl (v3, v4 + 1))
    ) else (
      some (.inl (v3 ||| ((1 : Int32) <<< (v4 &&& 31)), v4 + 1))
    )
  )
def f_X5_recalledBy (F G : Nat → Nat → Nat) (h0 : Nat) (p0 : Int32) (p1 : Int32) (I A : zH) : Option (Int32 × zH) :=
  zb (f_X5_needPiece F G h0 p0 I A) fun _ =>
  zb (f_X5_needLicence F G h0 p1 I A) fun _ =>
  zb (f_X5_bind F G h0 (F h0 7) (I h0 12) p0 p1 I A) fun A5 =>
  zb2 (zIt (fun x => g_X5_recalledBy_29 F G h0 x.1 x.2 I A5) 2000 (0, 0)) fun i8 i9 =>
  some (i8, A5)
set_option maxHeartbeats 4000000 in
set_option maxRecDepth 100000 in
theorem wb_X5_recalledBy_29 (l : Launch) (D : va_G) (cy : Nat → ClassId) {L : List Nat} {K N : Nat → Nat} {F G : Nat → Nat → Nat} (hZ : ZL L K N F G) {p : Program} {e : Env} {R : Room} {s : State} {m : MethodId} {args : Array Value} {below : List Frame} {meth : Method} {c : Code} {cells slots : Nat} {Q : State → Prop} (C : ZC p s m args meth c cX5_recalledBy yX5_recalledBy.cls 5 D cy L K N F G) (hRf : 5 ≤ R.frames) (hRl : 116 ≤ R.locals) (hRc : cells ≤ R.cells ∧ slots ≤ R.slots)  (v0 : Nat) (k0 : K v0 = 5) (I : zH) (A : zH) (v3 : Int32) (v4 : Int32) (o : (Int32 × Int32) ⊕ (Int32 × Int32)) (h : g_X5_recalledBy_29 F G v0 v3 v4 I A = some o)
    (hg : ∀ y : Int32 × Int32, o = .inl y → ZW p l e R s m args below meth c 5 D cy L K N F G cells slots Q I A 29 [(0, .ref v0), (3, .int y.1), (4, .int y.2)] [])
    (hx : ∀ y : Int32 × Int32, o = .inr y → ZW p l e R s m args below meth c 5 D cy L K N F G cells slots Q I A 68 [(0, .ref v0), (3, .int y.1), (4, .int y.2)] []) : ZW p l e R s m args below meth c 5 D cy L K N F G cells slots Q I A 29 [(0, .ref v0), (3, .int v3), (4, .int v4)] [] := by
  unfold g_X5_recalledBy_29 at h
  refine zr_iload C 2 rfl dX5_recalledBy_29 ?_
  refine zr_aload_n C 0 rfl rfl dX5_recalledBy_31 ?_
  refine zr_get (ci := 5) (k := 10) (v := .int (I v0 10)) C k0 (by decide) rfl zinX5 (by decide) wd_168 rfl dX5_recalledBy_32 ?_
  refine zr_icmp_ge (tgt := 68) C (by decide) dX5_recalledBy_35 (fun hc1 => ?_) (fun hc1 => ?_)
  · have h := zif_t hc1 h
    obtain rfl := zso h
    refine zr_lv (lv' := [(0, .ref v0), (3, .int v3), (4, .int v4)]) C [0, 1, 2] rfl ?_
    exact hx _ rfl
  · have h := zif_f hc1 h
    refine zr_aload_n C 0 rfl rfl dX5_recalledBy_38 ?_
    refine zr_get (ci := 5) (k := 5) (v := .ref (F v0 5)) C k0 (by decide) rfl zinX5 (by decide) wd_163 rfl dX5_recalledBy_39 ?_
    refine zr_iload C 2 rfl dX5_recalledBy_42 ?_
    obtain ⟨hc2, h⟩ := zck_e h
    refine zr_ald9 C (zt55 hZ k0).1 (zt55 hZ k0).2 hc2 dX5_recalledBy_44 ?_
    refine zr_aload_n C 0 rfl rfl dX5_recalledBy_45 ?_
    refine zr_get (ci := 5) (k := 7) (v := .ref (F v0 7)) C k0 (by decide) rfl zinX5 (by decide) wd_165 rfl dX5_recalledBy_46 ?_
    obtain ⟨r3, h4, h⟩ := zb_e h
    refine zr_callVi (n := 1) (As := [.ref (F v0 7)]) C (c_X3_isRecalledUnder l D cy hZ (G (F v0 5) v4.toNatClampNeg) (F v0 7) (zt9 hZ (zt55 hZ k0).1 (z_ix (zt55 hZ k0).2 hc2)) (zt57 hZ k0) I A h4) wd_325 wd_326 wd_327 wd_6 wd_328 (by decide +kernel) ⟨(Nat.le_trans (Nat.le_of_ble_eq_true rfl) hRf), (Nat.le_trans (Nat.le_of_ble_eq_true rfl) hRl)⟩ rfl rfl hRc (zt9 hZ (zt55 hZ k0).1 (z_ix (zt55 hZ k0).2 hc2)) (by decide) rfl rfl rfl (Nat.le_of_ble_eq_true rfl) dX5_recalledBy_49 ?_
    refine zr_if_eq (tgt := 62) C (by decide) dX5_recalledBy_52 (fun hc6 => ?_) (fun hc6 => ?_)
    · have h := zif_t hc6 h
      refine zr_iinc (v := v4 + 1) (lv' := [(4, .int (v4 + 1)), (0, .ref v0), (3, .int v3)]) C 2 rfl rfl (by decide) rfl dX5_recalledBy_62 ?_
      refine zr_goto (tgt := 29) C (by decide) dX5_recalledBy_65 ?_
      obtain rfl := zso h
      refine zr_lv (lv' := [(0, .ref v0), (3, .int v3), (4, .int (v4 + 1))]) C [1, 2, 0] rfl ?_
      exact hg _ rfl
    · have h := zif_f hc6 h
      refine zr_iload_n C 1 rfl rfl dX5_recalledBy_55 ?_
      refine zr_iconst (v := 1) C (by decide) dX5_recalledBy_56 ?_
      refine zr_iload C 2 rfl dX5_recalledBy_57 ?_
      refine zr_ishl C dX5_recalledBy_59 ?_
      refine zr_ior C dX5_recalledBy_60 ?_
      refine zr_istore_n (lv' := [(3, .int (v3 ||| ((1 : Int32) <<< (v4 &&& 31)))), (0, .ref v0), (4, .int v4)]) C rfl (by decide) rfl dX5_recalledBy_61 ?_
      refine zr_iinc (v := v4 + 1) (lv' := [(4, .int (v4 + 1)), (3, .int (v3 ||| ((1 : Int32) <<< (v4 &&& 31)))), (0, .ref v0)]) C 2 rfl rfl (by decide) rfl dX5_recalledBy_62 ?_
      refine zr_goto (tgt := 29) C (by decide) dX5_recalledBy_65 ?_
      obtain rfl := zso h
      refine zr_lv (lv' := [(0, .ref v0), (3, .int (v3 ||| ((1 : Int32) <<< (v4 &&& 31)))), (4, .int (v4 + 1))]) C [2, 1, 0] rfl ?_
      exact hg _ rfl
set_option maxHeartbeats 4000000 in
set_option maxRecDepth 100000 in
theorem w_X5_recalledBy_29 (l : Launch) (D : va_G) (cy : Nat → ClassId) {L : List Nat} {K N : Nat → Nat} {F G : Nat → Nat → Nat} (hZ : ZL L K N F G) {p : Program} {e : Env} {R : Room} {s : State} {m : MethodId} {args : Array Value} {below : List Frame} {meth : Method} {c : Code} {cells slots : Nat} {Q : State → Prop} (C : ZC p s m args meth c cX5_recalledBy yX5_recalledBy.cls 5 D cy L K N F G) (hRf : 5 ≤ R.frames) (hRl : 116 ≤ R.locals) (hRc : cells ≤ R.cells ∧ slots ≤ R.slots)  (v0 : Nat) (k0 : K v0 = 5) (I : zH) (A : zH) (n : Nat) (x : Int32 × Int32) (o : Int32 × Int32) (h : zIt (fun x => g_X5_recalledBy_29 F G v0 x.1 x.2 I A) n x = some o)
    (hx : ZW p l e R s m args below meth c 5 D cy L K N F G cells slots Q I A 68 [(0, .ref v0), (3, .int o.1), (4, .int o.2)] []) : ZW p l e R s m args below meth c 5 D cy L K N F G cells slots Q I A 29 [(0, .ref v0), (3, .int x.1), (4, .int x.2)] [] := by
  induction n generalizing x with
  | zero => cases h
  | succ n ih =>
    unfold zIt at h
    cases hb : g_X5_recalledBy_29 F G v0 x.1 x.2 I A with
    | none => rw [hb] at h; cases h
    | some q =>
      rw [hb] at h
      refine wb_X5_recalledBy_29 l D cy hZ C hRf hRl hRc v0 k0 I A x.1 x.2 q hb (fun y hy => ?_) (fun y hy => ?_)
      · subst hy; exact ih y h
      · subst hy; cases h; exact hx
set_option maxHeartbeats 4000000 in
set_option maxRecDepth 100000 in
theorem c_X5_recalledBy (l : Launch) (D : va_G) (cy : Nat → ClassId) {L : List Nat} {K N : Nat → Nat} {F G : Nat → Nat → Nat} (hZ : ZL L K N F G) (h0 : Nat) (p0 : Int32) (p1 : Int32) (k_h0 : K h0 = 5) (I A : zH) {r : Int32} {B' : zH} (h : f_X5_recalledBy F G h0 p0 p1 I A = some (r, B')) : ZMi l yX5_recalledBy cX5_recalledBy 5 (some .int) { frames := 5, cells := 0, slots := 0, locals := 116 } D cy L K N F G [.ref h0, .int p0, .int p1] I A r I B' := by
  refine ZMi.of (nL := 5) hZ rfl rfl (by decide) (Nat.le_of_ble_eq_true rfl) (fun p e s m args below meth c C hr => ?_)
  unfold f_X5_recalledBy at h
  refine zr_lv (lv' := [(0, .ref h0), (1, .int p0), (2, .int p1)]) C [0, 1, 2] rfl ?_
  refine zr_aload_n C 0 rfl rfl dX5_recalledBy_0 ?_
  refine zr_iload_n C 1 rfl rfl dX5_recalledBy_1 ?_
  obtain ⟨_, h1, h⟩ := zb_e h
  refine zr_callVv (n := 1) (As := [.int p0]) C (c_X5_needPiece l D cy hZ h0 p0 k_h0 I A h1) wd_368 wd_370 wp_10 wd_1 wd_371 (by decide +kernel) ⟨(Nat.le_of_ble_eq_true rfl), (Nat.le_of_ble_eq_true rfl)⟩ rfl rfl ⟨Nat.le_refl _, Nat.le_refl _⟩ k_h0 (by decide) rfl rfl rfl (Nat.le_of_ble_eq_true rfl) dX5_recalledBy_2 ?_
  refine zr_aload_n C 0 rfl rfl dX5_recalledBy_5 ?_
  refine zr_iload_n C 2 rfl rfl dX5_recalledBy_6 ?_
  obtain ⟨_, h3, h⟩ := zb_e h
  refine zr_callVv (n := 1) (As := [.int p1]) C (c_X5_needLicence l D cy hZ h0 p1 k_h0 I A h3) wd_436 wd_438 wp_14 wd_1 wd_439 (by decide +kernel) ⟨(Nat.le_of_ble_eq_true rfl), (Nat.le_of_ble_eq_true rfl)⟩ rfl rfl ⟨Nat.le_refl _, Nat.le_refl _⟩ k_h0 (by decide) rfl rfl rfl (Nat.le_of_ble_eq_true rfl) dX5_recalledBy_7 ?_
  refine zr_aload_n C 0 rfl rfl dX5_recalledBy_10 ?_
  refine zr_aload_n C 0 rfl rfl dX5_recalledBy_11 ?_
  refine zr_get (ci := 5) (k := 7) (v := .ref (F h0 7)) C k_h0 (by decide) rfl zinX5 (by decide) wd_165 rfl dX5_recalledBy_12 ?_
  refine zr_aload_n C 0 rfl rfl dX5_recalledBy_15 ?_
  refine zr_get (ci := 5) (k := 12) (v := .int (I h0 12)) C k_h0 (by decide) rfl zinX5 (by decide) wd_170 rfl dX5_recalledBy_16 ?_
  refine zr_iload_n C 1 rfl rfl dX5_recalledBy_19 ?_
  refine zr_iload_n C 2 rfl rfl dX5_recalledBy_20 ?_
  obtain ⟨A5, h6, h⟩ := zb_e h
  refine zr_callVv (n := 4) (As := [.ref (F h0 7), .int (I h0 12), .int p0, .int p1]) C (c_X5_bind l D cy hZ h0 (F h0 7) (I h0 12) p0 p1 k_h0 (zt57 hZ k_h0) I A h6) wd_310 wd_312 wp_8 wd_1 wd_313 (by decide +kernel) ⟨(Nat.le_of_ble_eq_true rfl), (Nat.le_of_ble_eq_true rfl)⟩ rfl rfl ⟨Nat.le_refl _, Nat.le_refl _⟩ k_h0 (by decide) rfl rfl rfl (Nat.le_of_ble_eq_true rfl) dX5_recalledBy_21 ?_
  refine zr_iconst (v := 0) C (by decide) dX5_recalledBy_24 ?_
  refine zr_istore_n (lv' := [(3, .int 0), (0, .ref h0), (1, .int p0), (2, .int p1)]) C rfl (by decide) rfl dX5_recalledBy_25 ?_
  refine zr_iconst (v := 0) C (by decide) dX5_recalledBy_26 ?_
  refine zr_istore (lv' := [(4, .int 0), (3, .int 0), (0, .ref h0), (1, .int p0), (2, .int p1)]) C (by decide) rfl dX5_recalledBy_27 ?_
  obtain ⟨i8, i9, h10, h⟩ := zb2_e h
  refine zr_lv (lv' := [(0, .ref h0), (3, .int 0), (4, .int 0)]) C [2, 1, 0] rfl ?_
  refine w_X5_recalledBy_29 l D cy hZ C (Nat.le_of_ble_eq_true rfl) (Nat.le_of_ble_eq_true rfl) ⟨Nat.le_refl _, Nat.le_refl _⟩ h0 k_h0 I A5 2000 (0, 0) (i8, i9) h10 ?_
  refine zr_iload_n C 1 rfl rfl dX5_recalledBy_68 ?_
  cases zso h
  exact zr_iret C hr dX5_recalledBy_69

def f_X5_clashesWith (F G : Nat → Nat → Nat) (h0 : Nat) (p0 : Int32) (p1 : Int32) (p2 : Int32) (I A : zH) : Option (Int32) :=
  zb (f_X5_needNode F G h0 p0 p1 I A) fun _ =>
  zb (f_X5_needPiece F G h0 p2 I A) fun _ =>
  zck (¬ (p0 < 0 ∨ 5 ≤ p0.toNatClampNeg)) <|
  zck (¬ (p1 < 0 ∨ 10 ≤ p1.toNatClampNeg)) <|
  zb (f_X3_clashesOf F G (G (F h0 5) p0.toNatClampNeg) p1 (A (F (G (F h0 5) p0.toNatClampNeg) 2) p1.toNatClampNeg) (F h0 6) I A) fun r7 =>
  zb (f_X3_clashesOf F G (G (F h0 5) p0.toNatClampNeg) p1 p2 (F h0 6) I A) fun r10 =>
  zb (f_X3_countClashes F G (G (F h0 5) p0.toNatClampNeg) (F h0 6) I A) fun r13 =>
  zb (f_J6_bitCount_0f7a4 F G r7 I A) fun r16 =>
  zb (f_J6_bitCount_0f7a4 F G r10 I A) fun r19 =>
  some ((r13 - r16) + r19)
set_option maxHeartbeats 4000000 in
set_option maxRecDepth 100000 in
theorem c_X5_clashesWith (l : Launch) (D : va_G) (cy : Nat → ClassId) {L : List Nat} {K N : Nat → Nat} {F G : Nat → Nat → Nat} (hZ : ZL L K N F G) (h0 : Nat) (p0 : Int32) (p1 : Int32) (p2 : Int32) (k_h0 : K h0 = 5) (I A : zH) {r : Int32} (h : f_X5_clashesWith F G h0 p0 p1 p2 I A = some r) : ZMi l yX5_clashesWith cX5_clashesWith 7 (some .int) { frames := 3, cells := 0, slots := 0, locals := 74 } D cy L K N F G [.ref h0, .int p0, .int p1, .int p2] I A r I A := by
  refine ZMi.of (nL := 7) hZ rfl rfl (by decide) (Nat.le_of_ble_eq_true rfl) (fun p e s m args below meth c C hr => ?_)
  unfold f_X5_clashesWith at h
  refine zr_lv (lv' := [(0, .ref h0), (1, .int p0), (2, .int p1), (3, .int p2)]) C [0, 1, 2, 3] rfl ?_
  refine zr_aload_n C 0 rfl rfl dX5_clashesWith_0 ?_
  refine zr_iload_n C 1 rfl rfl dX5_clashesWith_1 ?_
  refine zr_iload_n C 2 rfl rfl dX5_clashesWith_2 ?_
  obtain ⟨_, h1, h⟩ := zb_e h
  refine zr_callVv (n := 2) (As := [.int p0, .int p1]) C (c_X5_needNode l D cy hZ h0 p0 p1 k_h0 I A h1) wd_464 wd_466 wp_16 wd_1 wd_467 (by decide +kernel) ⟨(Nat.le_of_ble_eq_true rfl), (Nat.le_of_ble_eq_true rfl)⟩ rfl rfl ⟨Nat.le_refl _, Nat.le_refl _⟩ k_h0 (by decide) rfl rfl rfl (Nat.le_of_ble_eq_true rfl) dX5_clashesWith_3 ?_
  refine zr_aload_n C 0 rfl rfl dX5_clashesWith_6 ?_
  refine zr_iload_n C 3 rfl rfl dX5_clashesWith_7 ?_
  obtain ⟨_, h3, h⟩ := zb_e h
  refine zr_callVv (n := 1) (As := [.int p2]) C (c_X5_needPiece l D cy hZ h0 p2 k_h0 I A h3) wd_368 wd_370 wp_10 wd_1 wd_371 (by decide +kernel) ⟨(Nat.le_of_ble_eq_true rfl), (Nat.le_of_ble_eq_true rfl)⟩ rfl rfl ⟨Nat.le_refl _, Nat.le_refl _⟩ k_h0 (by decide) rfl rfl rfl (Nat.le_of_ble_eq_true rfl) dX5_clashesWith_8 ?_
  refine zr_aload_n C 0 rfl rfl dX5_clashesWith_11 ?_
  refine zr_get (ci := 5) (k := 5) (v := .ref (F h0 5)) C k_h0 (by decide) rfl zinX5 (by decide) wd_163 rfl dX5_clashesWith_12 ?_
  refine zr_iload_n C 1 rfl rfl dX5_clashesWith_15 ?_
  obtain ⟨hc5, h⟩ := zck_e h
  refine zr_ald9 C (zt55 hZ k_h0).1 (zt55 hZ k_h0).2 hc5 dX5_clashesWith_16 ?_
  refine zr_astore (lv' := [(4, .ref (G (F h0 5) p0.toNatClampNeg)), (0, .ref h0), (1, .int p0), (2, .int p1), (3, .int p2)]) C (by decide) rfl dX5_clashesWith_17 ?_
  refine zr_aload C 0 rfl dX5_clashesWith_19 ?_
  refine zr_iload_n C 3 rfl rfl dX5_clashesWith_21 ?_
  refine zr_aload C 0 rfl dX5_clashesWith_22 ?_
  refine zr_get (ci := 3) (k := 2) (v := .ref (F (G (F h0 5) p0.toNatClampNeg) 2)) C (zt9 hZ (zt55 hZ k_h0).1 (z_ix (zt55 hZ k_h0).2 hc5)) (by decide) rfl zinX3 (by decide) wd_131 rfl dX5_clashesWith_24 ?_
  refine zr_iload_n C 3 rfl rfl dX5_clashesWith_27 ?_
  obtain ⟨hc6, h⟩ := zck_e h
  refine zr_iald C (zt3 hZ (zt9 hZ (zt55 hZ k_h0).1 (z_ix (zt55 hZ k_h0).2 hc5)) 2 (by decide)).1 (zt3 hZ (zt9 hZ (zt55 hZ k_h0).1 (z_ix (zt55 hZ k_h0).2 hc5)) 2 (by decide)).2 hc6 dX5_clashesWith_28 ?_
  refine zr_aload_n C 1 rfl rfl dX5_clashesWith_29 ?_
  refine zr_get (ci := 5) (k := 6) (v := .ref (F h0 6)) C k_h0 (by decide) rfl zinX5 (by decide) wd_164 rfl dX5_clashesWith_30 ?_
  obtain ⟨r7, h8, h⟩ := zb_e h
  refine zr_callVi (n := 3) (As := [.int p1, .int (A (F (G (F h0 5) p0.toNatClampNeg) 2) p1.toNatClampNeg), .ref (F h0 6)]) C (c_X3_clashesOf l D cy hZ (G (F h0 5) p0.toNatClampNeg) p1 (A (F (G (F h0 5) p0.toNatClampNeg) 2) p1.toNatClampNeg) (F h0 6) (zt9 hZ (zt55 hZ k_h0).1 (z_ix (zt55 hZ k_h0).2 hc5)) (zt56 hZ k_h0) I A h8) wd_632 wd_347 wd_348 wd_6 wd_349 (by decide +kernel) ⟨(Nat.le_of_ble_eq_true rfl), (Nat.le_of_ble_eq_true rfl)⟩ rfl rfl ⟨Nat.le_refl _, Nat.le_refl _⟩ (zt9 hZ (zt55 hZ k_h0).1 (z_ix (zt55 hZ k_h0).2 hc5)) (by decide) rfl rfl rfl (Nat.le_of_ble_eq_true rfl) dX5_clashesWith_33 ?_
  refine zr_istore (lv' := [(5, .int r7), (4, .ref (G (F h0 5) p0.toNatClampNeg)), (0, .ref h0), (1, .int p0), (2, .int p1), (3, .int p2)]) C (by decide) rfl dX5_clashesWith_36 ?_
  refine zr_aload C 1 rfl dX5_clashesWith_38 ?_
  refine zr_iload_n C 4 rfl rfl dX5_clashesWith_40 ?_
  refine zr_iload_n C 5 rfl rfl dX5_clashesWith_41 ?_
  refine zr_aload_n C 2 rfl rfl dX5_clashesWith_42 ?_
  refine zr_get (ci := 5) (k := 6) (v := .ref (F h0 6)) C k_h0 (by decide) rfl zinX5 (by decide) wd_164 rfl dX5_clashesWith_43 ?_
  obtain ⟨r10, h11, h⟩ := zb_e h
  refine zr_callVi (n := 3) (As := [.int p1, .int p2, .ref (F h0 6)]) C (c_X3_clashesOf l D cy hZ (G (F h0 5) p0.toNatClampNeg) p1 p2 (F h0 6) (zt9 hZ (zt55 hZ k_h0).1 (z_ix (zt55 hZ k_h0).2 hc5)) (zt56 hZ k_h0) I A h11) wd_632 wd_347 wd_348 wd_6 wd_349 (by decide +kernel) ⟨(Nat.le_of_ble_eq_true rfl), (Nat.le_of_ble_eq_true rfl)⟩ rfl rfl ⟨Nat.le_refl _, Nat.le_refl _⟩ (zt9 hZ (zt55 hZ k_h0).1 (z_ix (zt55 hZ k_h0).2 hc5)) (by decide) rfl rfl rfl (Nat.le_of_ble_eq_true rfl) dX5_clashesWith_46 ?_
  refine zr_istore (lv' := [(6, .int r10), (5, .int r7), (4, .ref (G (F h0 5) p0.toNatClampNeg)), (0, .ref h0), (1, .int p0), (2, .int p1), (3, .int p2)]) C (by decide) rfl dX5_clashesWith_49 ?_
  refine zr_aload C 2 rfl dX5_clashesWith_51 ?_
  refine zr_aload_n C 3 rfl rfl dX5_clashesWith_53 ?_
  refine zr_get (ci := 5) (k := 6) (v := .ref (F h0 6)) C k_h0 (by decide) rfl zinX5 (by decide) wd_164 rfl dX5_clashesWith_54 ?_
  obtain ⟨r13, h14, h⟩ := zb_e h
  refine zr_callVi (n := 1) (As := [.ref (F h0 6)]) C (c_X3_countClashes l D cy hZ (G (F h0 5) p0.toNatClampNeg) (F h0 6) (zt9 hZ (zt55 hZ k_h0).1 (z_ix (zt55 hZ k_h0).2 hc5)) (zt56 hZ k_h0) I A h14) wd_504 wd_343 wd_344 wd_6 wd_345 (by decide +kernel) ⟨(Nat.le_of_ble_eq_true rfl), (Nat.le_of_ble_eq_true rfl)⟩ rfl rfl ⟨Nat.le_refl _, Nat.le_refl _⟩ (zt9 hZ (zt55 hZ k_h0).1 (z_ix (zt55 hZ k_h0).2 hc5)) (by decide) rfl rfl rfl (Nat.le_of_ble_eq_true rfl) dX5_clashesWith_57 ?_
  refine zr_iload C 1 rfl dX5_clashesWith_60 ?_
  obtain ⟨r16, h17, h⟩ := zb_e h
  refine zr_callSi (n := 1) (As := [.int r7]) C (c_J6_bitCount_0f7a4 l D cy hZ r7 I A h17) wd_503 wd_359 wd_12 wd_360 (by decide +kernel) ⟨(Nat.le_of_ble_eq_true rfl), (Nat.le_of_ble_eq_true rfl)⟩ rfl rfl ⟨Nat.le_refl _, Nat.le_refl _⟩ rfl rfl (Nat.le_of_ble_eq_true rfl) dX5_clashesWith_62 ?_
  refine zr_isub C dX5_clashesWith_65 ?_
  refine zr_iload C 0 rfl dX5_clashesWith_66 ?_
  obtain ⟨r19, h20, h⟩ := zb_e h
  refine zr_callSi (n := 1) (As := [.int r10]) C (c_J6_bitCount_0f7a4 l D cy hZ r10 I A h20) wd_503 wd_359 wd_12 wd_360 (by decide +kernel) ⟨(Nat.le_of_ble_eq_true rfl), (Nat.le_of_ble_eq_true rfl)⟩ rfl rfl ⟨Nat.le_refl _, Nat.le_refl _⟩ rfl rfl (Nat.le_of_ble_eq_true rfl) dX5_clashesWith_68 ?_
  refine zr_iadd C dX5_clashesWith_71 ?_
  obtain rfl := zso h
  exact zr_iret C hr dX5_clashesWith_72
end
