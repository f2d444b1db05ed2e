-- ===== PART A: goes FIRST, ahead of the names: the tables' words, and 'selects' of the private methods out of them =====
/-- a private method of a class that the tables say can be made, by its rows of tables_1 -/
def lw_okq (q : MethodName × Nat) : Prop := (q.1.cls ≠ "java/lang/invoke/MethodHandle" ∧ q.1.cls ≠ "java/lang/invoke/VarHandle") ∧ Cond.instantiable q.1.cls q.2 ∈ tables_1 ∧ Cond.privateMethod q.1 ∈ tables_1 ∧ Cond.instanceMethod q.1 ∈ tables_1
theorem lw_p0 : lw_okq (⟨"TurnTops$Shelf", "layouts", "(IZ)LTurnTops$Layouts;"⟩, 3) := ⟨⟨by decide +kernel, by decide +kernel⟩, List.mem_of_getElem? (i := 19) (by decide +kernel), List.mem_of_getElem? (i := 136) (by decide +kernel), List.mem_of_getElem? (i := 137) (by decide +kernel)⟩
theorem lw_p1 : lw_okq (⟨"TurnTops$Layouts", "fillSizes", "(I)V"⟩, 8) := ⟨⟨by decide +kernel, by decide +kernel⟩, List.mem_of_getElem? (i := 139) (by decide +kernel), List.mem_of_getElem? (i := 157) (by decide +kernel), List.mem_of_getElem? (i := 158) (by decide +kernel)⟩
theorem lw_p2 : lw_okq (⟨"TurnTops$Layouts", "fillTurned", "(I)V"⟩, 8) := ⟨⟨by decide +kernel, by decide +kernel⟩, List.mem_of_getElem? (i := 139) (by decide +kernel), List.mem_of_getElem? (i := 164) (by decide +kernel), List.mem_of_getElem? (i := 165) (by decide +kernel)⟩
theorem lw_p3 : lw_okq (⟨"TurnTops$Layouts", "codeBehind", "(II)I"⟩, 8) := ⟨⟨by decide +kernel, by decide +kernel⟩, List.mem_of_getElem? (i := 139) (by decide +kernel), List.mem_of_getElem? (i := 168) (by decide +kernel), List.mem_of_getElem? (i := 169) (by decide +kernel)⟩
theorem lw_p4 : lw_okq (⟨"TurnTops$Layouts", "orderOf", "(I)I"⟩, 8) := ⟨⟨by decide +kernel, by decide +kernel⟩, List.mem_of_getElem? (i := 139) (by decide +kernel), List.mem_of_getElem? (i := 172) (by decide +kernel), List.mem_of_getElem? (i := 173) (by decide +kernel)⟩
theorem lw_p5 : lw_okq (⟨"TurnTops$Layouts", "sidesBehind", "(II)I"⟩, 8) := ⟨⟨by decide +kernel, by decide +kernel⟩, List.mem_of_getElem? (i := 139) (by decide +kernel), List.mem_of_getElem? (i := 176) (by decide +kernel), List.mem_of_getElem? (i := 177) (by decide +kernel)⟩
theorem lw_p6 : lw_okq (⟨"TurnTops$Layouts", "findJoined", "(II)Z"⟩, 8) := ⟨⟨by decide +kernel, by decide +kernel⟩, List.mem_of_getElem? (i := 139) (by decide +kernel), List.mem_of_getElem? (i := 180) (by decide +kernel), List.mem_of_getElem? (i := 181) (by decide +kernel)⟩
theorem lw_p7 : lw_okq (⟨"TurnTops$Shape", "findPossible", "(I)I"⟩, 6) := ⟨⟨by decide +kernel, by decide +kernel⟩, List.mem_of_getElem? (i := 220) (by decide +kernel), List.mem_of_getElem? (i := 227) (by decide +kernel), List.mem_of_getElem? (i := 228) (by decide +kernel)⟩
theorem lw_p8 : lw_okq (⟨"TurnTops", "keepTrial", "()V"⟩, 6) := ⟨⟨by decide +kernel, by decide +kernel⟩, List.mem_of_getElem? (i := 11) (by decide +kernel), List.mem_of_getElem? (i := 276) (by decide +kernel), List.mem_of_getElem? (i := 277) (by decide +kernel)⟩
theorem lw_p9 : lw_okq (⟨"TurnTops", "dropOldestState", "()V"⟩, 6) := ⟨⟨by decide +kernel, by decide +kernel⟩, List.mem_of_getElem? (i := 11) (by decide +kernel), List.mem_of_getElem? (i := 280) (by decide +kernel), List.mem_of_getElem? (i := 281) (by decide +kernel)⟩
theorem lw_p10 : lw_okq (⟨"TurnTops", "stateAt", "(I)LTurnTops$Kitchen;"⟩, 6) := ⟨⟨by decide +kernel, by decide +kernel⟩, List.mem_of_getElem? (i := 11) (by decide +kernel), List.mem_of_getElem? (i := 284) (by decide +kernel), List.mem_of_getElem? (i := 285) (by decide +kernel)⟩
theorem lw_p11 : lw_okq (⟨"TurnTops$Solver", "fillCosts", "([IZ)V"⟩, 6) := ⟨⟨by decide +kernel, by decide +kernel⟩, List.mem_of_getElem? (i := 348) (by decide +kernel), List.mem_of_getElem? (i := 378) (by decide +kernel), List.mem_of_getElem? (i := 379) (by decide +kernel)⟩
theorem lw_p12 : lw_okq (⟨"TurnTops$Solver", "spreadCost", "([IIZ)I"⟩, 6) := ⟨⟨by decide +kernel, by decide +kernel⟩, List.mem_of_getElem? (i := 348) (by decide +kernel), List.mem_of_getElem? (i := 383) (by decide +kernel), List.mem_of_getElem? (i := 384) (by decide +kernel)⟩
theorem lw_p13 : lw_okq (⟨"TurnTops$Solver", "firstTurnToward", "(II)I"⟩, 6) := ⟨⟨by decide +kernel, by decide +kernel⟩, List.mem_of_getElem? (i := 348) (by decide +kernel), List.mem_of_getElem? (i := 403) (by decide +kernel), List.mem_of_getElem? (i := 404) (by decide +kernel)⟩
def lw_privs_1 : List (MethodName × Nat) := [(⟨"TurnTops$Shelf", "layouts", "(IZ)LTurnTops$Layouts;"⟩, 3), (⟨"TurnTops$Layouts", "fillSizes", "(I)V"⟩, 8), (⟨"TurnTops$Layouts", "fillTurned", "(I)V"⟩, 8), (⟨"TurnTops$Layouts", "codeBehind", "(II)I"⟩, 8), (⟨"TurnTops$Layouts", "orderOf", "(I)I"⟩, 8), (⟨"TurnTops$Layouts", "sidesBehind", "(II)I"⟩, 8), (⟨"TurnTops$Layouts", "findJoined", "(II)Z"⟩, 8), (⟨"TurnTops$Shape", "findPossible", "(I)I"⟩, 6), (⟨"TurnTops", "keepTrial", "()V"⟩, 6), (⟨"TurnTops", "dropOldestState", "()V"⟩, 6), (⟨"TurnTops", "stateAt", "(I)LTurnTops$Kitchen;"⟩, 6), (⟨"TurnTops$Solver", "fillCosts", "([IZ)V"⟩, 6), (⟨"TurnTops$Solver", "spreadCost", "([IIZ)I"⟩, 6), (⟨"TurnTops$Solver", "firstTurnToward", "(II)I"⟩, 6)]
theorem lw_r1 : ∀ q ∈ lw_privs_1, lw_okq q := List.forall_mem_cons.mpr ⟨lw_p0, List.forall_mem_cons.mpr ⟨lw_p1, List.forall_mem_cons.mpr ⟨lw_p2, List.forall_mem_cons.mpr ⟨lw_p3, List.forall_mem_cons.mpr ⟨lw_p4, List.forall_mem_cons.mpr ⟨lw_p5, List.forall_mem_cons.mpr ⟨lw_p6, List.forall_mem_cons.mpr ⟨lw_p7, List.forall_mem_cons.mpr ⟨lw_p8, List.forall_mem_cons.mpr ⟨lw_p9, List.forall_mem_cons.mpr ⟨lw_p10, List.forall_mem_cons.mpr ⟨lw_p11, List.forall_mem_cons.mpr ⟨lw_p12, List.forall_mem_cons.mpr ⟨lw_p13, fun _ h => absurd h List.not_mem_nil⟩⟩⟩⟩⟩⟩⟩⟩⟩⟩⟩⟩⟩⟩
def lw_privs : List (MethodName × Nat) := lw_privs_1
def lw_tbl : List Cond := k2_sels lw_privs ++ tables_1
theorem lw_privs_ok : ∀ q ∈ lw_privs, lw_okq q := lw_r1
-- ===== end of PART A; then your names; then what follows =====
def RX0 : String := "TurnTops$Kitchen"
def TX0 : u_T := fun k => match k with
  | 0 => ("TurnTops$Kitchen", "stacks", "I", false)
  | 1 => ("TurnTops$Kitchen", "hand", "I", false)
  | 2 => ("TurnTops$Kitchen", "handTurns", "[I", true)
  | 3 => ("TurnTops$Kitchen", "handWork", "[I", true)
  | 4 => ("TurnTops$Kitchen", "shapes", "[LTurnTops$Shape;", true)
  | 5 => ("TurnTops$Kitchen", "ranks", "[I", true)
  | _ => ("TurnTops$Kitchen", "made", "[I", true)
def tyX0 : Nat → FieldType := fun k => match k with
  | 0 => .int
  | 1 => .int
  | 2 => .array .int
  | 3 => .array .int
  | 4 => .array (.object "TurnTops$Shape")
  | 5 => .array .int
  | _ => .array .int
abbrev wsX00 : List Cond := u_ws RX0 TX0 7
theorem nmX0 : ∀ a, a < 7 → ∀ b, b < 7 → a ≠ b → (TX0 a).2.1 ≠ (TX0 b).2.1 := by decide +kernel
theorem tyX0_ok : ∀ k, k < 7 → parseFieldDescriptor (TX0 k).2.2.1 = some (tyX0 k) := by decide +kernel
abbrev cX0_init : ByteArray := prog_2_method_1_code
def yX0_init : MethodName := ⟨RX0, "<init>", "()V"⟩
abbrev cX0_copyFrom : ByteArray := prog_2_method_2_code
def yX0_copyFrom : MethodName := ⟨RX0, "copyFrom", "(LTurnTops$Kitchen;)V"⟩
abbrev cX0_shapeOf : ByteArray := prog_2_method_3_code
def yX0_shapeOf : MethodName := ⟨RX0, "shapeOf", "(I)LTurnTops$Shape;"⟩
abbrev cX0_rankOf : ByteArray := prog_2_method_4_code
def yX0_rankOf : MethodName := ⟨RX0, "rankOf", "(I)I"⟩
abbrev cX0_madeOf : ByteArray := prog_2_method_5_code
def yX0_madeOf : MethodName := ⟨RX0, "madeOf", "(I)I"⟩
abbrev cX0_putRank : ByteArray := prog_2_method_6_code
def yX0_putRank : MethodName := ⟨RX0, "putRank", "(II)V"⟩
abbrev cX0_add : ByteArray := prog_2_method_7_code
def yX0_add : MethodName := ⟨RX0, "add", "(LTurnTops$Shape;)I"⟩
abbrev cX0_makeTurn : ByteArray := prog_2_method_8_code
def yX0_makeTurn : MethodName := ⟨RX0, "makeTurn", "(II)Z"⟩
abbrev cX0_makeRow : ByteArray := prog_2_method_9_code
def yX0_makeRow : MethodName := ⟨RX0, "makeRow", "(II)Z"⟩
abbrev cX0_sortedStacks : ByteArray := prog_2_method_10_code
def yX0_sortedStacks : MethodName := ⟨RX0, "sortedStacks", "()I"⟩
abbrev cX0_allGaps : ByteArray := prog_2_method_11_code
def yX0_allGaps : MethodName := ⟨RX0, "allGaps", "()I"⟩
abbrev cX0_allTurns : ByteArray := prog_2_method_12_code
def yX0_allTurns : MethodName := ⟨RX0, "allTurns", "()I"⟩
def RX1 : String := "TurnTops$Layouts"
def TX1 : u_T := fun k => match k with
  | 0 => ("TurnTops$Layouts", "cakes", "I", true)
  | 1 => ("TurnTops$Layouts", "ranks", "I", true)
  | 2 => ("TurnTops$Layouts", "sideBits", "I", true)
  | 3 => ("TurnTops$Layouts", "allSides", "I", true)
  | 4 => ("TurnTops$Layouts", "codes", "[I", true)
  | 5 => ("TurnTops$Layouts", "sizes", "[I", true)
  | 6 => ("TurnTops$Layouts", "turned", "[I", true)
  | _ => ("TurnTops$Layouts", "joined", "[I", true)
def tyX1 : Nat → FieldType := fun k => match k with
  | 0 => .int
  | 1 => .int
  | 2 => .int
  | 3 => .int
  | 4 => .array .int
  | 5 => .array .int
  | 6 => .array .int
  | _ => .array .int
abbrev wsX10 : List Cond := u_ws RX1 TX1 8
theorem nmX1 : ∀ a, a < 8 → ∀ b, b < 8 → a ≠ b → (TX1 a).2.1 ≠ (TX1 b).2.1 := by decide +kernel
theorem tyX1_ok : ∀ k, k < 8 → parseFieldDescriptor (TX1 k).2.2.1 = some (tyX1 k) := by decide +kernel
abbrev cX1_init : ByteArray := prog_3_method_1_code
def yX1_init : MethodName := ⟨RX1, "<init>", "(IZ)V"⟩
abbrev cX1_fillCodes : ByteArray := prog_3_method_2_code
def yX1_fillCodes : MethodName := ⟨RX1, "fillCodes", "([IIIIII)I"⟩
abbrev cX1_fillSizes : ByteArray := prog_3_method_3_code
def yX1_fillSizes : MethodName := ⟨RX1, "fillSizes", "(I)V"⟩
abbrev cX1_fillTurned : ByteArray := prog_3_method_4_code
def yX1_fillTurned : MethodName := ⟨RX1, "fillTurned", "(I)V"⟩
abbrev cX1_codeBehind : ByteArray := prog_3_method_5_code
def yX1_codeBehind : MethodName := ⟨RX1, "codeBehind", "(II)I"⟩
abbrev cX1_sidesBehind : ByteArray := prog_3_method_6_code
def yX1_sidesBehind : MethodName := ⟨RX1, "sidesBehind", "(II)I"⟩
abbrev cX1_findJoined : ByteArray := prog_3_method_7_code
def yX1_findJoined : MethodName := ⟨RX1, "findJoined", "(II)Z"⟩
abbrev cX1_orderOf : ByteArray := prog_3_method_8_code
def yX1_orderOf : MethodName := ⟨RX1, "orderOf", "(I)I"⟩
abbrev cX1_rankOf : ByteArray := prog_3_method_9_code
def yX1_rankOf : MethodName := ⟨RX1, "rankOf", "(II)I"⟩
abbrev cX1_codeOf : ByteArray := prog_3_method_10_code
def yX1_codeOf : MethodName := ⟨RX1, "codeOf", "(I)I"⟩
abbrev cX1_sidesOf : ByteArray := prog_3_method_11_code
def yX1_sidesOf : MethodName := ⟨RX1, "sidesOf", "(I)I"⟩
abbrev cX1_sizeAt : ByteArray := prog_3_method_12_code
def yX1_sizeAt : MethodName := ⟨RX1, "sizeAt", "(II)I"⟩
abbrev cX1_isBurnt : ByteArray := prog_3_method_13_code
def yX1_isBurnt : MethodName := ⟨RX1, "isBurnt", "(II)Z"⟩
abbrev cX1_behind : ByteArray := prog_3_method_14_code
def yX1_behind : MethodName := ⟨RX1, "behind", "(II)I"⟩
abbrev cX1_isJoined : ByteArray := prog_3_method_15_code
def yX1_isJoined : MethodName := ⟨RX1, "isJoined", "(II)Z"⟩
abbrev cX1_gaps : ByteArray := prog_3_method_16_code
def yX1_gaps : MethodName := ⟨RX1, "gaps", "(I)I"⟩
def RX2 : String := "TurnTops$Shape"
def TX2 : u_T := fun k => match k with
  | 0 => ("TurnTops$Shape", "kind", "I", true)
  | 1 => ("TurnTops$Shape", "strength", "I", true)
  | 2 => ("TurnTops$Shape", "cakes", "I", true)
  | 3 => ("TurnTops$Shape", "layouts", "LTurnTops$Layouts;", true)
  | 4 => ("TurnTops$Shape", "possible", "[I", true)
  | _ => ("TurnTops$Shape", "solver", "LTurnTops$Solver;", false)
def tyX2 : Nat → FieldType := fun k => match k with
  | 0 => .int
  | 1 => .int
  | 2 => .int
  | 3 => .object "TurnTops$Layouts"
  | 4 => .array .int
  | _ => .object "TurnTops$Solver"
abbrev wsX20 : List Cond := u_ws RX2 TX2 6
theorem nmX2 : ∀ a, a < 6 → ∀ b, b < 6 → a ≠ b → (TX2 a).2.1 ≠ (TX2 b).2.1 := by decide +kernel
theorem tyX2_ok : ∀ k, k < 6 → parseFieldDescriptor (TX2 k).2.2.1 = some (tyX2 k) := by decide +kernel
abbrev cX2_init : ByteArray := prog_4_method_1_code
def yX2_init : MethodName := ⟨RX2, "<init>", "(IILTurnTops$Layouts;)V"⟩
abbrev cX2_findPossible : ByteArray := prog_4_method_2_code
def yX2_findPossible : MethodName := ⟨RX2, "findPossible", "(I)I"⟩
abbrev cX2_solver : ByteArray := prog_4_method_3_code
def yX2_solver : MethodName := ⟨RX2, "solver", "()LTurnTops$Solver;"⟩
abbrev cX2_possibleTurns : ByteArray := prog_4_method_4_code
def yX2_possibleTurns : MethodName := ⟨RX2, "possibleTurns", "(I)I"⟩
abbrev cX2_allows : ByteArray := prog_4_method_5_code
def yX2_allows : MethodName := ⟨RX2, "allows", "(II)Z"⟩
def RX3 : String := "TurnTops$Shelf"
def TX3 : u_T := fun k => match k with
  | 0 => ("TurnTops$Shelf", "plainLayouts", "[LTurnTops$Layouts;", true)
  | 1 => ("TurnTops$Shelf", "sidedLayouts", "[LTurnTops$Layouts;", true)
  | _ => ("TurnTops$Shelf", "shapes", "[LTurnTops$Shape;", true)
def tyX3 : Nat → FieldType := fun k => match k with
  | 0 => .array (.object "TurnTops$Layouts")
  | 1 => .array (.object "TurnTops$Layouts")
  | _ => .array (.object "TurnTops$Shape")
abbrev wsX30 : List Cond := u_ws RX3 TX3 3
theorem nmX3 : ∀ a, a < 3 → ∀ b, b < 3 → a ≠ b → (TX3 a).2.1 ≠ (TX3 b).2.1 := by decide +kernel
theorem tyX3_ok : ∀ k, k < 3 → parseFieldDescriptor (TX3 k).2.2.1 = some (tyX3 k) := by decide +kernel
abbrev cX3_init : ByteArray := prog_5_method_1_code
def yX3_init : MethodName := ⟨RX3, "<init>", "()V"⟩
abbrev cX3_shape : ByteArray := prog_5_method_2_code
def yX3_shape : MethodName := ⟨RX3, "shape", "(III)LTurnTops$Shape;"⟩
abbrev cX3_layouts : ByteArray := prog_5_method_3_code
def yX3_layouts : MethodName := ⟨RX3, "layouts", "(IZ)LTurnTops$Layouts;"⟩
abbrev cX3_isSided : ByteArray := prog_5_method_4_code
def yX3_isSided : MethodName := ⟨RX3, "isSided", "(I)Z"⟩
abbrev cX3_mostCakes : ByteArray := prog_5_method_5_code
def yX3_mostCakes : MethodName := ⟨RX3, "mostCakes", "(I)I"⟩
def RX4 : String := "TurnTops$Solver"
def TX4 : u_T := fun k => match k with
  | 0 => ("TurnTops$Solver", "shape", "LTurnTops$Shape;", true)
  | 1 => ("TurnTops$Solver", "layouts", "LTurnTops$Layouts;", true)
  | 2 => ("TurnTops$Solver", "turnCosts", "[I", true)
  | 3 => ("TurnTops$Solver", "turnsKnown", "Z", false)
  | 4 => ("TurnTops$Solver", "workCosts", "[I", true)
  | _ => ("TurnTops$Solver", "workKnown", "Z", false)
def tyX4 : Nat → FieldType := fun k => match k with
  | 0 => .object "TurnTops$Shape"
  | 1 => .object "TurnTops$Layouts"
  | 2 => .array .int
  | 3 => .boolean
  | 4 => .array .int
  | _ => .boolean
abbrev wsX40 : List Cond := u_ws RX4 TX4 6
theorem nmX4 : ∀ a, a < 6 → ∀ b, b < 6 → a ≠ b → (TX4 a).2.1 ≠ (TX4 b).2.1 := by decide +kernel
theorem tyX4_ok : ∀ k, k < 6 → parseFieldDescriptor (TX4 k).2.2.1 = some (tyX4 k) := by decide +kernel
abbrev cX4_init : ByteArray := prog_6_method_1_code
def yX4_init : MethodName := ⟨RX4, "<init>", "(LTurnTops$Shape;)V"⟩
abbrev cX4_turnsFrom : ByteArray := prog_6_method_2_code
def yX4_turnsFrom : MethodName := ⟨RX4, "turnsFrom", "(I)I"⟩
abbrev cX4_workFrom : ByteArray := prog_6_method_3_code
def yX4_workFrom : MethodName := ⟨RX4, "workFrom", "(I)I"⟩
abbrev cX4_stacksWithTurns : ByteArray := prog_6_method_4_code
def yX4_stacksWithTurns : MethodName := ⟨RX4, "stacksWithTurns", "(I)I"⟩
abbrev cX4_firstRow : ByteArray := prog_6_method_5_code
def yX4_firstRow : MethodName := ⟨RX4, "firstRow", "(I)I"⟩
abbrev cX4_firstTurnToward : ByteArray := prog_6_method_6_code
def yX4_firstTurnToward : MethodName := ⟨RX4, "firstTurnToward", "(II)I"⟩
abbrev cX4_fillCosts : ByteArray := prog_6_method_7_code
def yX4_fillCosts : MethodName := ⟨RX4, "fillCosts", "([IZ)V"⟩
abbrev cX4_spreadCost : ByteArray := prog_6_method_8_code
def yX4_spreadCost : MethodName := ⟨RX4, "spreadCost", "([IIZ)I"⟩
abbrev cX4_sortingRows : ByteArray := prog_6_method_9_code
def yX4_sortingRows : MethodName := ⟨RX4, "sortingRows", "(II)I"⟩
abbrev cX4_countSorting : ByteArray := prog_6_method_10_code
def yX4_countSorting : MethodName := ⟨RX4, "countSorting", "(LTurnTops$Shape;II)I"⟩
def RX5 : String := "TurnTops$Text"
def TX5 : u_T := fun k => match k with
  | 0 => ("TurnTops$Text", "length", "I", false)
  | 1 => ("TurnTops$Text", "reason", "I", false)
  | 2 => ("TurnTops$Text", "faultPlace", "I", false)
  | 3 => ("TurnTops$Text", "turns", "I", false)
  | 4 => ("TurnTops$Text", "signs", "[I", true)
  | 5 => ("TurnTops$Text", "openStack", "I", false)
  | _ => ("TurnTops$Text", "turnsOfOrder", "I", false)
def tyX5 : Nat → FieldType := fun k => match k with
  | 0 => .int
  | 1 => .int
  | 2 => .int
  | 3 => .int
  | 4 => .array .int
  | 5 => .int
  | _ => .int
abbrev wsX50 : List Cond := u_ws RX5 TX5 7
theorem nmX5 : ∀ a, a < 7 → ∀ b, b < 7 → a ≠ b → (TX5 a).2.1 ≠ (TX5 b).2.1 := by decide +kernel
theorem tyX5_ok : ∀ k, k < 7 → parseFieldDescriptor (TX5 k).2.2.1 = some (tyX5 k) := by decide +kernel
abbrev cX5_init : ByteArray := prog_7_method_1_code
def yX5_init : MethodName := ⟨RX5, "<init>", "()V"⟩
def RX6 : String := "TurnTops"
def TX6 : u_T := fun k => match k with
  | 0 => ("TurnTops", "shelf", "LTurnTops$Shelf;", true)
  | 1 => ("TurnTops", "text", "LTurnTops$Text;", true)
  | 2 => ("TurnTops", "now", "LTurnTops$Kitchen;", true)
  | 3 => ("TurnTops", "trial", "LTurnTops$Kitchen;", true)
  | 4 => ("TurnTops", "history", "[LTurnTops$Kitchen;", true)
  | _ => ("TurnTops", "states", "I", false)
def tyX6 : Nat → FieldType := fun k => match k with
  | 0 => .object "TurnTops$Shelf"
  | 1 => .object "TurnTops$Text"
  | 2 => .object "TurnTops$Kitchen"
  | 3 => .object "TurnTops$Kitchen"
  | 4 => .array (.object "TurnTops$Kitchen")
  | _ => .int
abbrev wsX60 : List Cond := u_ws RX6 TX6 6
theorem nmX6 : ∀ a, a < 6 → ∀ b, b < 6 → a ≠ b → (TX6 a).2.1 ≠ (TX6 b).2.1 := by decide +kernel
theorem tyX6_ok : ∀ k, k < 6 → parseFieldDescriptor (TX6 k).2.2.1 = some (tyX6 k) := by decide +kernel
abbrev cX6_init : ByteArray := prog_1_method_1_code
def yX6_init : MethodName := ⟨RX6, "<init>", "()V"⟩
abbrev cX6_stack : ByteArray := prog_1_method_2_code
def yX6_stack : MethodName := ⟨RX6, "stack", "(III)I"⟩
abbrev cX6_lay : ByteArray := prog_1_method_3_code
def yX6_lay : MethodName := ⟨RX6, "lay", "(III)I"⟩
abbrev cX6_turn : ByteArray := prog_1_method_4_code
def yX6_turn : MethodName := ⟨RX6, "turn", "(II)I"⟩
abbrev cX6_doRow : ByteArray := prog_1_method_5_code
def yX6_doRow : MethodName := ⟨RX6, "doRow", "(II)I"⟩
abbrev cX6_stackOf : ByteArray := prog_1_method_6_code
def yX6_stackOf : MethodName := ⟨RX6, "stackOf", "(II)I"⟩
abbrev cX6_cakeAt : ByteArray := prog_1_method_7_code
def yX6_cakeAt : MethodName := ⟨RX6, "cakeAt", "(II)I"⟩
abbrev cX6_gapsBehind : ByteArray := prog_1_method_8_code
def yX6_gapsBehind : MethodName := ⟨RX6, "gapsBehind", "(II)I"⟩
abbrev cX6_fewest : ByteArray := prog_1_method_9_code
def yX6_fewest : MethodName := ⟨RX6, "fewest", "(II)I"⟩
abbrev cX6_leastWork : ByteArray := prog_1_method_10_code
def yX6_leastWork : MethodName := ⟨RX6, "leastWork", "(I)I"⟩
abbrev cX6_ways : ByteArray := prog_1_method_11_code
def yX6_ways : MethodName := ⟨RX6, "ways", "(II)I"⟩
abbrev cX6_ranked : ByteArray := prog_1_method_15_code
def yX6_ranked : MethodName := ⟨RX6, "ranked", "(III)I"⟩
abbrev cX6_ofDistance : ByteArray := prog_1_method_16_code
def yX6_ofDistance : MethodName := ⟨RX6, "ofDistance", "(II)I"⟩
abbrev cX6_count : ByteArray := prog_1_method_17_code
def yX6_count : MethodName := ⟨RX6, "count", "(I)I"⟩
abbrev cX6_undo : ByteArray := prog_1_method_18_code
def yX6_undo : MethodName := ⟨RX6, "undo", "()I"⟩
abbrev cX6_keepTrial : ByteArray := prog_1_method_23_code
def yX6_keepTrial : MethodName := ⟨RX6, "keepTrial", "()V"⟩
abbrev cX6_dropOldestState : ByteArray := prog_1_method_24_code
def yX6_dropOldestState : MethodName := ⟨RX6, "dropOldestState", "()V"⟩
abbrev cX6_stateAt : ByteArray := prog_1_method_25_code
def yX6_stateAt : MethodName := ⟨RX6, "stateAt", "(I)LTurnTops$Kitchen;"⟩
abbrev cX6_at : ByteArray := prog_1_method_26_code
def yX6_at : MethodName := ⟨RX6, "at", "([II)I"⟩
abbrev cX6_put : ByteArray := prog_1_method_27_code
def yX6_put : MethodName := ⟨RX6, "put", "([III)V"⟩
abbrev cX6_newRow : ByteArray := prog_1_method_28_code
def yX6_newRow : MethodName := ⟨RX6, "newRow", "(I)[I"⟩
abbrev cX6_copy : ByteArray := prog_1_method_29_code
def yX6_copy : MethodName := ⟨RX6, "copy", "([I[I)V"⟩
def RX7 : String := "TurnTopsModel"
def TX7 : u_T := fun k => match k with
  | _ => ("", "", "", false)
def tyX7 : Nat → FieldType := fun k => match k with
  | _ => .int
abbrev wsX70 : List Cond := u_ws RX7 TX7 0
theorem nmX7 : ∀ a, a < 0 → ∀ b, b < 0 → a ≠ b → (TX7 a).2.1 ≠ (TX7 b).2.1 := by decide +kernel
theorem tyX7_ok : ∀ k, k < 0 → parseFieldDescriptor (TX7 k).2.2.1 = some (tyX7 k) := by decide +kernel
def RJ6 : String := "java/lang/Integer"
def TJ6 : u_T := fun k => match k with
  | _ => ("", "", "", false)
def tyJ6 : Nat → FieldType := fun k => match k with
  | _ => .int
abbrev wsJ60 : List Cond := u_ws RJ6 TJ6 0
theorem nmJ6 : ∀ a, a < 0 → ∀ b, b < 0 → a ≠ b → (TJ6 a).2.1 ≠ (TJ6 b).2.1 := by decide +kernel
theorem tyJ6_ok : ∀ k, k < 0 → parseFieldDescriptor (TJ6 k).2.2.1 = some (tyJ6 k) := by decide +kernel
abbrev cJ6_bitCount_0f7a4 : ByteArray := prog_10_method_49_code
def yJ6_bitCount_0f7a4 : MethodName := ⟨RJ6, "bitCount", "(I)I"⟩
def RJ9 : String := "java/lang/Math"
def TJ9 : u_T := fun k => match k with
  | _ => ("", "", "", false)
def tyJ9 : Nat → FieldType := fun k => match k with
  | _ => .int
abbrev wsJ90 : List Cond := u_ws RJ9 TJ9 0
theorem nmJ9 : ∀ a, a < 0 → ∀ b, b < 0 → a ≠ b → (TJ9 a).2.1 ≠ (TJ9 b).2.1 := by decide +kernel
theorem tyJ9_ok : ∀ k, k < 0 → parseFieldDescriptor (TJ9 k).2.2.1 = some (tyJ9 k) := by decide +kernel
abbrev cJ9_max_7cf53 : ByteArray := prog_11_method_65_code
def yJ9_max_7cf53 : MethodName := ⟨RJ9, "max", "(II)I"⟩
def RL : String := "TurnTopsLaw"
abbrev cL_cell : ByteArray := method_2_code
def yL_cell : MethodName := ⟨RL, "cell", "([II)I"⟩
abbrev cL_holds : ByteArray := method_3_code
def yL_holds : MethodName := ⟨RL, "holds", "(LTurnTops;)Z"⟩
abbrev cL_turns : ByteArray := method_4_code
def yL_turns : MethodName := ⟨RL, "turns", "(LTurnTops;II)Z"⟩
abbrev cL_sorts : ByteArray := method_5_code
def yL_sorts : MethodName := ⟨RL, "sorts", "(LTurnTops;I)Z"⟩
abbrev cL_law : ByteArray := code
def yL_law : MethodName := ⟨RL, "law", "([I)Z"⟩
def wsL_law_r1 : List Cond := [Cond.classLink RL 10 RX6, Cond.instantiable RX6 6, Cond.initialized RX6, Cond.constant RL 36 (-1000004), Cond.methodLink RL 49 yX6_init, Cond.instanceMethod yX6_init, Cond.code yX6_init cX6_init 2 none, Cond.methodLink RX6 1 objectInit, Cond.instanceMethod objectInit, Cond.code objectInit ⟨#[0xb1]⟩ 1 none, Cond.classLink RX6 7 RX3, Cond.instantiable RX3 3, Cond.initialized RX3, Cond.fieldLink RX6 10 "TurnTops" "shelf" "LTurnTops$Shelf;", Cond.classLink RX6 16 RX5, Cond.instantiable RX5 7, Cond.initialized RX5, Cond.fieldLink RX6 19 "TurnTops" "text" "LTurnTops$Text;", Cond.classLink RX6 23 RX0, Cond.instantiable RX0 7, Cond.initialized RX0, Cond.fieldLink RX6 26 "TurnTops" "now" "LTurnTops$Kitchen;", Cond.fieldLink RX6 30 "TurnTops" "trial" "LTurnTops$Kitchen;", Cond.fieldLink RX6 33 "TurnTops" "history" "[LTurnTops$Kitchen;"]
def wsL_law_r2 : List Cond := [Cond.fieldLink RX6 37 "TurnTops" "states" "I", Cond.instanceMethod yX3_init, Cond.code yX3_init cX3_init 1 none, Cond.methodLink RX3 3 objectInit, Cond.classLink RX3 9 RX1, Cond.fieldLink RX3 11 "TurnTops$Shelf" "plainLayouts" "[LTurnTops$Layouts;", Cond.fieldLink RX3 17 "TurnTops$Shelf" "sidedLayouts" "[LTurnTops$Layouts;", Cond.classLink RX3 20 RX2, Cond.fieldLink RX3 22 "TurnTops$Shelf" "shapes" "[LTurnTops$Shape;", Cond.instanceMethod yX5_init, Cond.code yX5_init cX5_init 1 none, Cond.methodLink RX5 3 objectInit, Cond.fieldLink RX5 9 "TurnTops$Text" "length" "I", Cond.fieldLink RX5 15 "TurnTops$Text" "reason" "I", Cond.fieldLink RX5 18 "TurnTops$Text" "faultPlace" "I", Cond.fieldLink RX5 21 "TurnTops$Text" "turns" "I", Cond.arrayClass .int, Cond.fieldLink RX5 24 "TurnTops$Text" "signs" "[I", Cond.fieldLink RX5 28 "TurnTops$Text" "openStack" "I", Cond.fieldLink RX5 31 "TurnTops$Text" "turnsOfOrder" "I", Cond.instanceMethod yX0_init, Cond.code yX0_init cX0_init 1 none, Cond.methodLink RX0 3 objectInit, Cond.fieldLink RX0 9 "TurnTops$Kitchen" "stacks" "I"]
def wsL_law_r3 : List Cond := [Cond.fieldLink RX0 15 "TurnTops$Kitchen" "hand" "I", Cond.fieldLink RX0 18 "TurnTops$Kitchen" "handTurns" "[I", Cond.fieldLink RX0 22 "TurnTops$Kitchen" "handWork" "[I", Cond.classLink RX0 25 RX2, Cond.fieldLink RX0 27 "TurnTops$Kitchen" "shapes" "[LTurnTops$Shape;", Cond.fieldLink RX0 31 "TurnTops$Kitchen" "ranks" "[I", Cond.fieldLink RX0 34 "TurnTops$Kitchen" "made" "[I", Cond.methodLink RL 50 yL_holds, Cond.static yL_holds, Cond.initialized RL, Cond.code yL_holds cL_holds 13 (some .boolean), Cond.methodLink RL 9 yX6_count, Cond.instanceMethod yX6_count, Cond.selects RX6 yX6_count yX6_count, Cond.code yX6_count cX6_count 2 (some .int), Cond.fieldLink RX6 157 "TurnTops$Kitchen" "stacks" "I", Cond.fieldLink RX6 167 "TurnTops$Kitchen" "hand" "I", Cond.fieldLink RX6 170 "TurnTops$Kitchen" "handTurns" "[I", Cond.fieldLink RX6 178 "TurnTops$Kitchen" "handWork" "[I", Cond.fieldLink RX6 184 "TurnTops$Text" "length" "I", Cond.constant RX6 45 (-1000001), Cond.methodLink RX6 160 yX0_sortedStacks, Cond.instanceMethod yX0_sortedStacks, Cond.selects RX0 yX0_sortedStacks yX0_sortedStacks]
def wsL_law_r4 : List Cond := [Cond.code yX0_sortedStacks cX0_sortedStacks 3 (some .int), Cond.methodLink RX0 53 yX0_rankOf, Cond.instanceMethod yX0_rankOf, Cond.selects RX0 yX0_rankOf yX0_rankOf, Cond.code yX0_rankOf cX0_rankOf 2 (some .int), Cond.static yX6_at, Cond.code yX6_at cX6_at 2 (some .int), Cond.methodLink RX6 164 yX0_allGaps, Cond.instanceMethod yX0_allGaps, Cond.selects RX0 yX0_allGaps yX0_allGaps, Cond.code yX0_allGaps cX0_allGaps 4 (some .int), Cond.fieldLink RX0 61 "TurnTops$Shape" "layouts" "LTurnTops$Layouts;", Cond.methodLink RX0 49 yX0_shapeOf, Cond.instanceMethod yX0_shapeOf, Cond.selects RX0 yX0_shapeOf yX0_shapeOf, Cond.code yX0_shapeOf cX0_shapeOf 2 (some (.object "TurnTops$Shape")), Cond.methodLink RX0 82 yX1_gaps, Cond.instanceMethod yX1_gaps, Cond.selects RX1 yX1_gaps yX1_gaps, Cond.initialized RX1, Cond.code yX1_gaps cX1_gaps 2 (some .int), Cond.fieldLink RX1 9 "TurnTops$Layouts" "cakes" "I", Cond.fieldLink RX1 38 "TurnTops$Layouts" "joined" "[I", Cond.methodLink RX1 81 yJ6_bitCount_0f7a4]
def wsL_law_r5 : List Cond := [Cond.static yJ6_bitCount_0f7a4, Cond.initialized RJ6, Cond.code yJ6_bitCount_0f7a4 cJ6_bitCount_0f7a4 1 (some .int), Cond.constant RJ6 265 (1431655765), Cond.constant RJ6 266 (858993459), Cond.constant RJ6 267 (252645135), Cond.methodLink RX6 174 yX6_at, Cond.methodLink RX6 181 yX0_allTurns, Cond.instanceMethod yX0_allTurns, Cond.selects RX0 yX0_allTurns yX0_allTurns, Cond.code yX0_allTurns cX0_allTurns 3 (some .int), Cond.methodLink RL 15 yX6_stackOf, Cond.instanceMethod yX6_stackOf, Cond.selects RX6 yX6_stackOf yX6_stackOf, Cond.code yX6_stackOf cX6_stackOf 5 (some .int), Cond.fieldLink RX6 96 "TurnTops$Shape" "kind" "I", Cond.fieldLink RX6 82 "TurnTops$Shape" "cakes" "I", Cond.fieldLink RX6 99 "TurnTops$Shape" "strength" "I", Cond.fieldLink RX6 62 "TurnTops$Shape" "layouts" "LTurnTops$Layouts;", Cond.methodLink RX6 58 yX0_shapeOf, Cond.methodLink RX6 90 yX0_rankOf, Cond.methodLink RX6 102 yX1_codeOf, Cond.instanceMethod yX1_codeOf, Cond.selects RX1 yX1_codeOf yX1_codeOf]
def wsL_law_r6 : List Cond := [Cond.code yX1_codeOf cX1_codeOf 2 (some .int), Cond.fieldLink RX1 28 "TurnTops$Layouts" "codes" "[I", Cond.fieldLink RX1 15 "TurnTops$Layouts" "sideBits" "I", Cond.methodLink RX6 105 yX1_sidesOf, Cond.instanceMethod yX1_sidesOf, Cond.selects RX1 yX1_sidesOf yX1_sidesOf, Cond.code yX1_sidesOf cX1_sidesOf 2 (some .int), Cond.fieldLink RX1 18 "TurnTops$Layouts" "allSides" "I", Cond.methodLink RX6 78 yX1_gaps, Cond.methodLink RX6 108 yX2_possibleTurns, Cond.instanceMethod yX2_possibleTurns, Cond.selects RX2 yX2_possibleTurns yX2_possibleTurns, Cond.initialized RX2, Cond.code yX2_possibleTurns cX2_possibleTurns 2 (some .int), Cond.fieldLink RX2 39 "TurnTops$Shape" "possible" "[I", Cond.methodLink RX6 111 yX0_madeOf, Cond.instanceMethod yX0_madeOf, Cond.selects RX0 yX0_madeOf yX0_madeOf, Cond.code yX0_madeOf cX0_madeOf 2 (some .int), Cond.methodLink RL 19 yX6_cakeAt, Cond.instanceMethod yX6_cakeAt, Cond.selects RX6 yX6_cakeAt yX6_cakeAt, Cond.code yX6_cakeAt cX6_cakeAt 6 (some .int), Cond.methodLink RX6 114 yX1_sizeAt]
def wsL_law_r7 : List Cond := [Cond.instanceMethod yX1_sizeAt, Cond.selects RX1 yX1_sizeAt yX1_sizeAt, Cond.code yX1_sizeAt cX1_sizeAt 3 (some .int), Cond.fieldLink RX1 32 "TurnTops$Layouts" "sizes" "[I", Cond.methodLink RX6 117 yX1_isBurnt, Cond.instanceMethod yX1_isBurnt, Cond.selects RX1 yX1_isBurnt yX1_isBurnt, Cond.code yX1_isBurnt cX1_isBurnt 3 (some .boolean), Cond.methodLink RL 56 yL_cell, Cond.static yL_cell, Cond.code yL_cell cL_cell 2 (some .int), Cond.constant RL 7 (48271), Cond.constant RL 8 (2147483647), Cond.methodLink RL 60 yX6_stack, Cond.instanceMethod yX6_stack, Cond.selects RX6 yX6_stack yX6_stack, Cond.code yX6_stack cX6_stack 6 (some .int), Cond.constant RX6 54 (-1000003), Cond.methodLink RX6 41 yX3_shape, Cond.instanceMethod yX3_shape, Cond.selects RX3 yX3_shape yX3_shape, Cond.code yX3_shape cX3_shape 6 (some (.object "TurnTops$Shape")), Cond.instantiable RX2 6, Cond.methodLink RX3 26 yX3_mostCakes]
def wsL_law_r8 : List Cond := [Cond.static yX3_mostCakes, Cond.code yX3_mostCakes cX3_mostCakes 1 (some .int), Cond.methodLink RX3 30 yX3_isSided, Cond.static yX3_isSided, Cond.code yX3_isSided cX3_isSided 1 (some .boolean), Cond.methodLink RX3 34 yX3_layouts, Cond.instanceMethod yX3_layouts, Cond.selects RX3 yX3_layouts yX3_layouts, Cond.code yX3_layouts cX3_layouts 4 (some (.object "TurnTops$Layouts")), Cond.instantiable RX1 8, Cond.methodLink RX3 41 yX1_init, Cond.instanceMethod yX1_init, Cond.code yX1_init cX1_init 6 none, Cond.methodLink RX1 3 objectInit, Cond.fieldLink RX1 21 "TurnTops$Layouts" "ranks" "I", Cond.fieldLink RX1 35 "TurnTops$Layouts" "turned" "[I", Cond.static yX6_newRow, Cond.code yX6_newRow cX6_newRow 1 (some (.array .int)), Cond.methodLink RX6 213 Lib.Math.max.name, Cond.static Lib.Math.max.name, Cond.initialized "java/lang/Math", Cond.code Lib.Math.max.name Lib.Math.max.code 2 (some .int), Cond.methodLink RX1 41 yX1_fillCodes, Cond.static yX1_fillCodes]
def wsL_law_r9 : List Cond := [Cond.code yX1_fillCodes cX1_fillCodes 8 (some .int), Cond.static yX6_put, Cond.code yX6_put cX6_put 3 none, Cond.methodLink RX1 45 yX1_fillSizes, Cond.instanceMethod yX1_fillSizes, Cond.selects RX1 yX1_fillSizes yX1_fillSizes, Cond.code yX1_fillSizes cX1_fillSizes 4 none, Cond.methodLink RX1 49 yX1_fillTurned, Cond.instanceMethod yX1_fillTurned, Cond.selects RX1 yX1_fillTurned yX1_fillTurned, Cond.code yX1_fillTurned cX1_fillTurned 6 none, Cond.methodLink RX1 64 yX1_codeBehind, Cond.instanceMethod yX1_codeBehind, Cond.selects RX1 yX1_codeBehind yX1_codeBehind, Cond.code yX1_codeBehind cX1_codeBehind 6 (some .int), Cond.methodLink RX1 68 yX1_orderOf, Cond.instanceMethod yX1_orderOf, Cond.selects RX1 yX1_orderOf yX1_orderOf, Cond.code yX1_orderOf cX1_orderOf 7 (some .int), Cond.methodLink RX1 72 yX1_sidesBehind, Cond.instanceMethod yX1_sidesBehind, Cond.selects RX1 yX1_sidesBehind yX1_sidesBehind, Cond.code yX1_sidesBehind cX1_sidesBehind 6 (some .int), Cond.methodLink RX1 52 yX1_findJoined]
def wsL_law_r10 : List Cond := [Cond.instanceMethod yX1_findJoined, Cond.selects RX1 yX1_findJoined yX1_findJoined, Cond.code yX1_findJoined cX1_findJoined 6 (some .boolean), Cond.methodLink RX1 75 yX1_sizeAt, Cond.methodLink RX1 78 yX1_isBurnt, Cond.methodLink RX3 38 yX2_init, Cond.instanceMethod yX2_init, Cond.code yX2_init cX2_init 5 none, Cond.methodLink RX2 3 objectInit, Cond.fieldLink RX2 9 "TurnTops$Shape" "solver" "LTurnTops$Solver;", Cond.fieldLink RX2 15 "TurnTops$Shape" "kind" "I", Cond.fieldLink RX2 19 "TurnTops$Shape" "strength" "I", Cond.fieldLink RX2 22 "TurnTops$Shape" "layouts" "LTurnTops$Layouts;", Cond.fieldLink RX2 26 "TurnTops$Layouts" "cakes" "I", Cond.fieldLink RX2 31 "TurnTops$Shape" "cakes" "I", Cond.fieldLink RX2 32 "TurnTops$Layouts" "ranks" "I", Cond.methodLink RX2 43 yX2_findPossible, Cond.instanceMethod yX2_findPossible, Cond.selects RX2 yX2_findPossible yX2_findPossible, Cond.code yX2_findPossible cX2_findPossible 7 (some .int), Cond.methodLink RX2 47 yX1_sizeAt, Cond.methodLink RX2 51 yX1_isJoined, Cond.instanceMethod yX1_isJoined, Cond.selects RX1 yX1_isJoined yX1_isJoined]
def wsL_law_r11 : List Cond := [Cond.code yX1_isJoined cX1_isJoined 3 (some .boolean), Cond.methodLink RX6 46 yX0_copyFrom, Cond.instanceMethod yX0_copyFrom, Cond.selects RX0 yX0_copyFrom yX0_copyFrom, Cond.code yX0_copyFrom cX0_copyFrom 3 none, Cond.static yX6_copy, Cond.code yX6_copy cX6_copy 3 none, Cond.methodLink RX6 50 yX0_add, Cond.instanceMethod yX0_add, Cond.selects RX0 yX0_add yX0_add, Cond.code yX0_add cX0_add 3 (some .int), Cond.methodLink RX6 55 yX6_keepTrial, Cond.instanceMethod yX6_keepTrial, Cond.selects RX6 yX6_keepTrial yX6_keepTrial, Cond.code yX6_keepTrial cX6_keepTrial 2 none, Cond.methodLink RX6 210 yX6_dropOldestState, Cond.instanceMethod yX6_dropOldestState, Cond.selects RX6 yX6_dropOldestState yX6_dropOldestState, Cond.code yX6_dropOldestState cX6_dropOldestState 3 none, Cond.methodLink RX6 187 yX6_stateAt, Cond.instanceMethod yX6_stateAt, Cond.selects RX6 yX6_stateAt yX6_stateAt, Cond.code yX6_stateAt cX6_stateAt 2 (some (.object "TurnTops$Kitchen")), Cond.methodLink RL 33 yX6_fewest]
def wsL_law_r12 : List Cond := [Cond.instanceMethod yX6_fewest, Cond.selects RX6 yX6_fewest yX6_fewest, Cond.code yX6_fewest cX6_fewest 7 (some .int), Cond.constant RX6 132 (-1000004), Cond.methodLink RX6 123 yX2_solver, Cond.instanceMethod yX2_solver, Cond.selects RX2 yX2_solver yX2_solver, Cond.code yX2_solver cX2_solver 1 (some (.object "TurnTops$Solver")), Cond.classLink RX2 55 RX4, Cond.instantiable RX4 6, Cond.initialized RX4, Cond.methodLink RX2 57 yX4_init, Cond.instanceMethod yX4_init, Cond.code yX4_init cX4_init 2 none, Cond.methodLink RX4 3 objectInit, Cond.fieldLink RX4 9 "TurnTops$Solver" "turnsKnown" "Z", Cond.fieldLink RX4 15 "TurnTops$Solver" "workKnown" "Z", Cond.fieldLink RX4 18 "TurnTops$Solver" "shape" "LTurnTops$Shape;", Cond.fieldLink RX4 22 "TurnTops$Shape" "layouts" "LTurnTops$Layouts;", Cond.fieldLink RX4 28 "TurnTops$Solver" "layouts" "LTurnTops$Layouts;", Cond.fieldLink RX4 29 "TurnTops$Layouts" "ranks" "I", Cond.fieldLink RX4 39 "TurnTops$Solver" "turnCosts" "[I", Cond.fieldLink RX4 43 "TurnTops$Solver" "workCosts" "[I", Cond.methodLink RX6 127 yX4_turnsFrom]
def wsL_law_r13 : List Cond := [Cond.instanceMethod yX4_turnsFrom, Cond.selects RX4 yX4_turnsFrom yX4_turnsFrom, Cond.code yX4_turnsFrom cX4_turnsFrom 2 (some .int), Cond.methodLink RX4 46 yX4_fillCosts, Cond.instanceMethod yX4_fillCosts, Cond.selects RX4 yX4_fillCosts yX4_fillCosts, Cond.code yX4_fillCosts cX4_fillCosts 6 none, Cond.methodLink RX4 80 Lib.Math.max.name, Cond.methodLink RX4 76 yX4_spreadCost, Cond.instanceMethod yX4_spreadCost, Cond.selects RX4 yX4_spreadCost yX4_spreadCost, Cond.code yX4_spreadCost cX4_spreadCost 9 (some .int), Cond.fieldLink RX4 65 "TurnTops$Shape" "cakes" "I", Cond.methodLink RX4 62 yX1_behind, Cond.instanceMethod yX1_behind, Cond.selects RX1 yX1_behind yX1_behind, Cond.code yX1_behind cX1_behind 3 (some .int), Cond.methodLink RX4 68 yX2_allows, Cond.instanceMethod yX2_allows, Cond.selects RX2 yX2_allows yX2_allows, Cond.code yX2_allows cX2_allows 3 (some .boolean), Cond.methodLink RX6 133 yX4_firstRow, Cond.instanceMethod yX4_firstRow, Cond.selects RX4 yX4_firstRow yX4_firstRow]
def wsL_law_r14 : List Cond := [Cond.code yX4_firstRow cX4_firstRow 6 (some .int), Cond.methodLink RX4 54 yX4_turnsFrom, Cond.methodLink RX4 58 yX4_firstTurnToward, Cond.instanceMethod yX4_firstTurnToward, Cond.selects RX4 yX4_firstTurnToward yX4_firstTurnToward, Cond.code yX4_firstTurnToward cX4_firstTurnToward 4 (some .int), Cond.methodLink RL 64 yL_sorts, Cond.static yL_sorts, Cond.code yL_sorts cL_sorts 6 (some .boolean), Cond.methodLink RL 37 yX6_leastWork, Cond.instanceMethod yX6_leastWork, Cond.selects RX6 yX6_leastWork yX6_leastWork, Cond.code yX6_leastWork cX6_leastWork 4 (some .int), Cond.methodLink RX6 136 yX4_workFrom, Cond.instanceMethod yX4_workFrom, Cond.selects RX4 yX4_workFrom yX4_workFrom, Cond.code yX4_workFrom cX4_workFrom 2 (some .int), Cond.methodLink RL 40 yX6_ways, Cond.instanceMethod yX6_ways, Cond.selects RX6 yX6_ways yX6_ways, Cond.code yX6_ways cX6_ways 4 (some .int), Cond.methodLink RX6 139 yX4_sortingRows, Cond.instanceMethod yX4_sortingRows, Cond.selects RX4 yX4_sortingRows yX4_sortingRows]
def wsL_law_r15 : List Cond := [Cond.code yX4_sortingRows cX4_sortingRows 3 (some .int), Cond.methodLink RX4 85 yX4_countSorting, Cond.static yX4_countSorting, Cond.code yX4_countSorting cX4_countSorting 5 (some .int), Cond.methodLink RX4 89 yX1_gaps, Cond.methodLink RL 43 yX6_ofDistance, Cond.instanceMethod yX6_ofDistance, Cond.selects RX6 yX6_ofDistance yX6_ofDistance, Cond.code yX6_ofDistance cX6_ofDistance 4 (some .int), Cond.methodLink RX6 154 yX4_stacksWithTurns, Cond.instanceMethod yX4_stacksWithTurns, Cond.selects RX4 yX4_stacksWithTurns yX4_stacksWithTurns, Cond.code yX4_stacksWithTurns cX4_stacksWithTurns 4 (some .int), Cond.methodLink RL 46 yX6_doRow, Cond.instanceMethod yX6_doRow, Cond.selects RX6 yX6_doRow yX6_doRow, Cond.code yX6_doRow cX6_doRow 4 (some .int), Cond.constant RX6 92 (99999999), Cond.constant RX6 89 (-1000002), Cond.methodLink RX6 93 yX0_makeRow, Cond.instanceMethod yX0_makeRow, Cond.selects RX0 yX0_makeRow yX0_makeRow, Cond.code yX0_makeRow cX0_makeRow 4 (some .boolean), Cond.constant RX0 78 (10000000)]
def wsL_law_r16 : List Cond := [Cond.methodLink RX0 79 yX0_makeTurn, Cond.instanceMethod yX0_makeTurn, Cond.selects RX0 yX0_makeTurn yX0_makeTurn, Cond.code yX0_makeTurn cX0_makeTurn 4 (some .boolean), Cond.methodLink RX0 57 yX2_allows, Cond.methodLink RX0 65 yX1_behind, Cond.methodLink RX0 71 yX0_putRank, Cond.instanceMethod yX0_putRank, Cond.selects RX0 yX0_putRank yX0_putRank, Cond.code yX0_putRank cX0_putRank 3 none, Cond.methodLink RX0 75 yX0_madeOf, Cond.methodLink RL 68 yX6_ranked, Cond.instanceMethod yX6_ranked, Cond.selects RX6 yX6_ranked yX6_ranked, Cond.code yX6_ranked cX6_ranked 5 (some .int), Cond.fieldLink RX6 151 "TurnTops$Layouts" "ranks" "I", Cond.methodLink RL 71 yX6_lay, Cond.instanceMethod yX6_lay, Cond.selects RX6 yX6_lay yX6_lay, Cond.code yX6_lay cX6_lay 6 (some .int), Cond.methodLink RX6 68 yX1_rankOf, Cond.instanceMethod yX1_rankOf, Cond.selects RX1 yX1_rankOf yX1_rankOf, Cond.code yX1_rankOf cX1_rankOf 4 (some .int)]
def wsL_law_r17 : List Cond := [Cond.methodLink RX6 74 yX0_putRank, Cond.methodLink RL 74 yL_turns, Cond.static yL_turns, Cond.code yL_turns cL_turns 13 (some .boolean), Cond.constant RL 28 (-1000002), Cond.methodLink RL 22 yX6_gapsBehind, Cond.instanceMethod yX6_gapsBehind, Cond.selects RX6 yX6_gapsBehind yX6_gapsBehind, Cond.code yX6_gapsBehind cX6_gapsBehind 4 (some .int), Cond.methodLink RX6 120 yX1_behind, Cond.methodLink RL 25 yX6_turn, Cond.instanceMethod yX6_turn, Cond.selects RX6 yX6_turn yX6_turn, Cond.code yX6_turn cX6_turn 4 (some .int), Cond.methodLink RX6 85 yX0_makeTurn, Cond.methodLink RL 29 yX6_undo, Cond.instanceMethod yX6_undo, Cond.selects RX6 yX6_undo yX6_undo, Cond.code yX6_undo cX6_undo 2 (some .int)]
def wsL_law : List Cond := (wsL_law_r1 ++ (wsL_law_r2 ++ (wsL_law_r3 ++ (wsL_law_r4 ++ (wsL_law_r5 ++ (wsL_law_r6 ++ (wsL_law_r7 ++ (wsL_law_r8 ++ (wsL_law_r9 ++ (wsL_law_r10 ++ (wsL_law_r11 ++ (wsL_law_r12 ++ (wsL_law_r13 ++ (wsL_law_r14 ++ (wsL_law_r15 ++ (wsL_law_r16 ++ wsL_law_r17)))))))))))))))) ++ wsX60 ++ wsX30 ++ wsX50 ++ wsX00 ++ wsX20 ++ wsX10 ++ wsX40 ++ ([] : List Cond)
abbrev vwCl : List vw_C := [(RX0, TX0, 7), (RX1, TX1, 8), (RX2, TX2, 6), (RX3, TX3, 3), (RX4, TX4, 6), (RX5, TX5, 7), (RX6, TX6, 6)]
theorem inlX0 : ∀ w ∈ wsX00, w ∈ wsL_law := fun _ h => List.mem_append_left _ (List.mem_append_left _ (List.mem_append_left _ (List.mem_append_left _ (List.mem_append_right _ h))))
theorem inlX1 : ∀ w ∈ wsX10, w ∈ wsL_law := fun _ h => List.mem_append_left _ (List.mem_append_left _ (List.mem_append_right _ h))
theorem inlX2 : ∀ w ∈ wsX20, w ∈ wsL_law := fun _ h => List.mem_append_left _ (List.mem_append_left _ (List.mem_append_left _ (List.mem_append_right _ h)))
theorem inlX3 : ∀ w ∈ wsX30, w ∈ wsL_law := fun _ h => List.mem_append_left _ (List.mem_append_left _ (List.mem_append_left _ (List.mem_append_left _ (List.mem_append_left _ (List.mem_append_left _ (List.mem_append_right _ h))))))
theorem inlX4 : ∀ w ∈ wsX40, w ∈ wsL_law := fun _ h => List.mem_append_left _ (List.mem_append_right _ h)
theorem inlX5 : ∀ w ∈ wsX50, w ∈ wsL_law := fun _ h => List.mem_append_left _ (List.mem_append_left _ (List.mem_append_left _ (List.mem_append_left _ (List.mem_append_left _ (List.mem_append_right _ h)))))
theorem inlX6 : ∀ w ∈ wsX60, w ∈ wsL_law := fun _ h => List.mem_append_left _ (List.mem_append_left _ (List.mem_append_left _ (List.mem_append_left _ (List.mem_append_left _ (List.mem_append_left _ (List.mem_append_left _ (List.mem_append_right _ h)))))))
def nestL : List (String × Nat × MethodName) := [(RX6, 18, yX5_init), (RX6, 25, yX0_init), (RX6, 9, yX3_init), (RX0, 37, yX6_copy), (RX0, 41, yX6_at), (RX0, 45, yX6_put), (RX1, 24, yX6_newRow), (RX1, 56, yX6_put), (RX1, 60, yX6_at), (RX2, 35, yX6_newRow), (RX2, 60, yX6_at), (RX4, 35, yX6_newRow), (RX4, 50, yX6_at), (RX4, 72, yX6_put)]
def aoL : List String := [RX0, RX1, RX2]
