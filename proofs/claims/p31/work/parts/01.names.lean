-- ===== PART A: goes FIRST, ahead of the names: the tables' words, and 'selects' of the private methods out of them =====
/-- a private method of a class that the tables say can be made, by its rows of tables_1 -/
def lw_okq (q : MethodName × Nat) : Prop := (q.1.cls ≠ "java/lang/invoke/MethodHandle" ∧ q.1.cls ≠ "java/lang/invoke/VarHandle") ∧ Cond.instantiable q.1.cls q.2 ∈ tables_1 ∧ Cond.privateMethod q.1 ∈ tables_1 ∧ Cond.instanceMethod q.1 ∈ tables_1
theorem lw_p0 : lw_okq (⟨"ContextCoder", "remember", "()V"⟩, 9) := ⟨⟨by decide +kernel, by decide +kernel⟩, List.mem_of_getElem? (i := 13) (by decide +kernel), List.mem_of_getElem? (i := 254) (by decide +kernel), List.mem_of_getElem? (i := 255) (by decide +kernel)⟩
theorem lw_p1 : lw_okq (⟨"ContextCoder", "rollPast", "()V"⟩, 9) := ⟨⟨by decide +kernel, by decide +kernel⟩, List.mem_of_getElem? (i := 13) (by decide +kernel), List.mem_of_getElem? (i := 258) (by decide +kernel), List.mem_of_getElem? (i := 259) (by decide +kernel)⟩
theorem lw_p2 : lw_okq (⟨"ContextCoder$Model", "has", "(I)Z"⟩, 5) := ⟨⟨by decide +kernel, by decide +kernel⟩, List.mem_of_getElem? (i := 27) (by decide +kernel), List.mem_of_getElem? (i := 345) (by decide +kernel), List.mem_of_getElem? (i := 346) (by decide +kernel)⟩
theorem lw_p3 : lw_okq (⟨"ContextCoder$Model", "halve", "(I)V"⟩, 5) := ⟨⟨by decide +kernel, by decide +kernel⟩, List.mem_of_getElem? (i := 27) (by decide +kernel), List.mem_of_getElem? (i := 349) (by decide +kernel), List.mem_of_getElem? (i := 350) (by decide +kernel)⟩
theorem lw_p4 : lw_okq (⟨"ContextCoder", "lastContext", "(I)I"⟩, 9) := ⟨⟨by decide +kernel, by decide +kernel⟩, List.mem_of_getElem? (i := 13) (by decide +kernel), List.mem_of_getElem? (i := 408) (by decide +kernel), List.mem_of_getElem? (i := 409) (by decide +kernel)⟩
theorem lw_p5 : lw_okq (⟨"ContextCoder", "plan", "(LContextCoder$State;LContextCoder$Row;II)V"⟩, 9) := ⟨⟨by decide +kernel, by decide +kernel⟩, List.mem_of_getElem? (i := 13) (by decide +kernel), List.mem_of_getElem? (i := 430) (by decide +kernel), List.mem_of_getElem? (i := 431) (by decide +kernel)⟩
theorem lw_p6 : lw_okq (⟨"ContextCoder", "codeOnTrial", "(LContextCoder$Row;)V"⟩, 9) := ⟨⟨by decide +kernel, by decide +kernel⟩, List.mem_of_getElem? (i := 13) (by decide +kernel), List.mem_of_getElem? (i := 544) (by decide +kernel), List.mem_of_getElem? (i := 545) (by decide +kernel)⟩
theorem lw_p7 : lw_okq (⟨"ContextCoder", "codeSymbol", "(LContextCoder$Row;II)V"⟩, 9) := ⟨⟨by decide +kernel, by decide +kernel⟩, List.mem_of_getElem? (i := 13) (by decide +kernel), List.mem_of_getElem? (i := 561) (by decide +kernel), List.mem_of_getElem? (i := 562) (by decide +kernel)⟩
theorem lw_p8 : lw_okq (⟨"ContextCoder$Encoder", "carry", "()V"⟩, 4) := ⟨⟨by decide +kernel, by decide +kernel⟩, List.mem_of_getElem? (i := 176) (by decide +kernel), List.mem_of_getElem? (i := 573) (by decide +kernel), List.mem_of_getElem? (i := 574) (by decide +kernel)⟩
theorem lw_p9 : lw_okq (⟨"ContextCoder$Encoder", "leastMultiple", "(I)J"⟩, 4) := ⟨⟨by decide +kernel, by decide +kernel⟩, List.mem_of_getElem? (i := 176) (by decide +kernel), List.mem_of_getElem? (i := 596) (by decide +kernel), List.mem_of_getElem? (i := 597) (by decide +kernel)⟩
theorem lw_p10 : lw_okq (⟨"ContextCoder", "readOnTrial", "()I"⟩, 9) := ⟨⟨by decide +kernel, by decide +kernel⟩, List.mem_of_getElem? (i := 13) (by decide +kernel), List.mem_of_getElem? (i := 615) (by decide +kernel), List.mem_of_getElem? (i := 616) (by decide +kernel)⟩
theorem lw_p11 : lw_okq (⟨"ContextCoder$Decoder", "shift", "()V"⟩, 4) := ⟨⟨by decide +kernel, by decide +kernel⟩, List.mem_of_getElem? (i := 199) (by decide +kernel), List.mem_of_getElem? (i := 624) (by decide +kernel), List.mem_of_getElem? (i := 625) (by decide +kernel)⟩
theorem lw_p12 : lw_okq (⟨"ContextCoder", "readSymbol", "(LContextCoder$Row;I)I"⟩, 9) := ⟨⟨by decide +kernel, by decide +kernel⟩, List.mem_of_getElem? (i := 13) (by decide +kernel), List.mem_of_getElem? (i := 631) (by decide +kernel), List.mem_of_getElem? (i := 632) (by decide +kernel)⟩
def lw_privs_1 : List (MethodName × Nat) := [(⟨"ContextCoder", "remember", "()V"⟩, 9), (⟨"ContextCoder", "rollPast", "()V"⟩, 9), (⟨"ContextCoder$Model", "has", "(I)Z"⟩, 5), (⟨"ContextCoder$Model", "halve", "(I)V"⟩, 5), (⟨"ContextCoder", "lastContext", "(I)I"⟩, 9), (⟨"ContextCoder", "plan", "(LContextCoder$State;LContextCoder$Row;II)V"⟩, 9), (⟨"ContextCoder", "codeOnTrial", "(LContextCoder$Row;)V"⟩, 9), (⟨"ContextCoder", "codeSymbol", "(LContextCoder$Row;II)V"⟩, 9), (⟨"ContextCoder$Encoder", "carry", "()V"⟩, 4), (⟨"ContextCoder$Encoder", "leastMultiple", "(I)J"⟩, 4), (⟨"ContextCoder", "readOnTrial", "()I"⟩, 9), (⟨"ContextCoder$Decoder", "shift", "()V"⟩, 4), (⟨"ContextCoder", "readSymbol", "(LContextCoder$Row;I)I"⟩, 9)]
theorem lw_r1 : ∀ q ∈ lw_privs_1, lw_okq q := List.forall_mem_cons.mpr ⟨lw_p0, List.forall_mem_cons.mpr ⟨lw_p1, List.forall_mem_cons.mpr ⟨lw_p2, List.forall_mem_cons.mpr ⟨lw_p3, List.forall_mem_cons.mpr ⟨lw_p4, List.forall_mem_cons.mpr ⟨lw_p5, List.forall_mem_cons.mpr ⟨lw_p6, List.forall_mem_cons.mpr ⟨lw_p7, List.forall_mem_cons.mpr ⟨lw_p8, List.forall_mem_cons.mpr ⟨lw_p9, List.forall_mem_cons.mpr ⟨lw_p10, List.forall_mem_cons.mpr ⟨lw_p11, List.forall_mem_cons.mpr ⟨lw_p12, fun _ h => absurd h List.not_mem_nil⟩⟩⟩⟩⟩⟩⟩⟩⟩⟩⟩⟩⟩
def lw_privs : List (MethodName × Nat) := lw_privs_1
def lw_tbl : List Cond := k2_sels lw_privs ++ tables_1
theorem lw_privs_ok : ∀ q ∈ lw_privs, lw_okq q := lw_r1
def RX0 : String := "ContextCoder$Candidates"
def TX0 : u_T := fun k => match k with
  | 0 => ("ContextCoder$Candidates", "excluded", "[Z", true)
  | _ => ("ContextCoder$Candidates", "untouched", "Z", false)
def tyX0 : Nat → FieldType := fun k => match k with
  | 0 => .array .boolean
  | _ => .boolean
theorem nmX0 : ∀ a, a < 2 → ∀ b, b < 2 → a ≠ b → (TX0 a).2.1 ≠ (TX0 b).2.1 := by decide +kernel
theorem tyX0_ok : ∀ k, k < 2 → parseFieldDescriptor (TX0 k).2.2.1 = some (tyX0 k) := by decide +kernel
abbrev cX0_init : ByteArray := prog_2_method_1_code
def yX0_init : MethodName := ⟨RX0, "<init>", "()V"⟩
abbrev cX0_restart : ByteArray := prog_2_method_2_code
def yX0_restart : MethodName := ⟨RX0, "restart", "()V"⟩
abbrev cX0_remains : ByteArray := prog_2_method_3_code
def yX0_remains : MethodName := ⟨RX0, "remains", "(I)Z"⟩
abbrev cX0_holds : ByteArray := prog_2_method_4_code
def yX0_holds : MethodName := ⟨RX0, "holds", "(LContextCoder$Model;II)Z"⟩
abbrev cX0_sum : ByteArray := prog_2_method_5_code
def yX0_sum : MethodName := ⟨RX0, "sum", "(LContextCoder$Model;I)I"⟩
abbrev cX0_sumBelow : ByteArray := prog_2_method_6_code
def yX0_sumBelow : MethodName := ⟨RX0, "sumBelow", "(LContextCoder$Model;II)I"⟩
abbrev cX0_symbolAt : ByteArray := prog_2_method_7_code
def yX0_symbolAt : MethodName := ⟨RX0, "symbolAt", "(LContextCoder$Model;II)I"⟩
abbrev cX0_leave : ByteArray := prog_2_method_8_code
def yX0_leave : MethodName := ⟨RX0, "leave", "(LContextCoder$State;I)V"⟩
abbrev cX0_remainingBelow : ByteArray := prog_2_method_9_code
def yX0_remainingBelow : MethodName := ⟨RX0, "remainingBelow", "(I)I"⟩
abbrev cX0_remainingAt : ByteArray := prog_2_method_10_code
def yX0_remainingAt : MethodName := ⟨RX0, "remainingAt", "(I)I"⟩
def RX1 : String := "ContextCoder$Decoder"
def TX1 : u_T := fun k => match k with
  | 0 => ("ContextCoder$Decoder", "code", "LContextCoder$Row;", false)
  | 1 => ("ContextCoder$Decoder", "next", "I", false)
  | 2 => ("ContextCoder$Decoder", "distance", "J", false)
  | _ => ("ContextCoder$Decoder", "range", "J", false)
def tyX1 : Nat → FieldType := fun k => match k with
  | 0 => .object "ContextCoder$Row"
  | 1 => .int
  | 2 => .long
  | _ => .long
theorem nmX1 : ∀ a, a < 4 → ∀ b, b < 4 → a ≠ b → (TX1 a).2.1 ≠ (TX1 b).2.1 := by decide +kernel
theorem tyX1_ok : ∀ k, k < 4 → parseFieldDescriptor (TX1 k).2.2.1 = some (tyX1 k) := by decide +kernel
abbrev cX1_init : ByteArray := prog_3_method_1_code
def yX1_init : MethodName := ⟨RX1, "<init>", "()V"⟩
abbrev cX1_begin : ByteArray := prog_3_method_2_code
def yX1_begin : MethodName := ⟨RX1, "begin", "(LContextCoder$Row;)V"⟩
abbrev cX1_shift : ByteArray := prog_3_method_3_code
def yX1_shift : MethodName := ⟨RX1, "shift", "()V"⟩
abbrev cX1_number : ByteArray := prog_3_method_4_code
def yX1_number : MethodName := ⟨RX1, "number", "(I)I"⟩
abbrev cX1_interval : ByteArray := prog_3_method_5_code
def yX1_interval : MethodName := ⟨RX1, "interval", "(III)V"⟩
def RX2 : String := "ContextCoder$Encoder"
def TX2 : u_T := fun k => match k with
  | 0 => ("ContextCoder$Encoder", "low", "J", false)
  | 1 => ("ContextCoder$Encoder", "range", "J", false)
  | 2 => ("ContextCoder$Encoder", "out", "LContextCoder$Row;", true)
  | _ => ("ContextCoder$Encoder", "longest", "I", false)
def tyX2 : Nat → FieldType := fun k => match k with
  | 0 => .long
  | 1 => .long
  | 2 => .object "ContextCoder$Row"
  | _ => .int
theorem nmX2 : ∀ a, a < 4 → ∀ b, b < 4 → a ≠ b → (TX2 a).2.1 ≠ (TX2 b).2.1 := by decide +kernel
theorem tyX2_ok : ∀ k, k < 4 → parseFieldDescriptor (TX2 k).2.2.1 = some (tyX2 k) := by decide +kernel
abbrev cX2_init : ByteArray := prog_4_method_1_code
def yX2_init : MethodName := ⟨RX2, "<init>", "()V"⟩
abbrev cX2_begin : ByteArray := prog_4_method_2_code
def yX2_begin : MethodName := ⟨RX2, "begin", "()V"⟩
abbrev cX2_interval : ByteArray := prog_4_method_3_code
def yX2_interval : MethodName := ⟨RX2, "interval", "(III)V"⟩
abbrev cX2_carry : ByteArray := prog_4_method_4_code
def yX2_carry : MethodName := ⟨RX2, "carry", "()V"⟩
abbrev cX2_finish : ByteArray := prog_4_method_5_code
def yX2_finish : MethodName := ⟨RX2, "finish", "()V"⟩
abbrev cX2_leastMultiple : ByteArray := prog_4_method_6_code
def yX2_leastMultiple : MethodName := ⟨RX2, "leastMultiple", "(I)J"⟩
def RX3 : String := "ContextCoder$Ledger"
def TX3 : u_T := fun k => match k with
  | 0 => ("ContextCoder$Ledger", "costs", "LContextCoder$Row;", true)
  | 1 => ("ContextCoder$Ledger", "escapes", "LContextCoder$Row;", true)
  | 2 => ("ContextCoder$Ledger", "orders", "LContextCoder$Row;", true)
  | 3 => ("ContextCoder$Ledger", "symbols", "LContextCoder$Row;", true)
  | _ => ("ContextCoder$Ledger", "longest", "I", false)
def tyX3 : Nat → FieldType := fun k => match k with
  | 0 => .object "ContextCoder$Row"
  | 1 => .object "ContextCoder$Row"
  | 2 => .object "ContextCoder$Row"
  | 3 => .object "ContextCoder$Row"
  | _ => .int
theorem nmX3 : ∀ a, a < 5 → ∀ b, b < 5 → a ≠ b → (TX3 a).2.1 ≠ (TX3 b).2.1 := by decide +kernel
theorem tyX3_ok : ∀ k, k < 5 → parseFieldDescriptor (TX3 k).2.2.1 = some (tyX3 k) := by decide +kernel
abbrev cX3_init : ByteArray := prog_5_method_1_code
def yX3_init : MethodName := ⟨RX3, "<init>", "()V"⟩
abbrev cX3_clear : ByteArray := prog_5_method_2_code
def yX3_clear : MethodName := ⟨RX3, "clear", "()V"⟩
abbrev cX3_add : ByteArray := prog_5_method_3_code
def yX3_add : MethodName := ⟨RX3, "add", "(IIII)V"⟩
abbrev cX3_take : ByteArray := prog_5_method_4_code
def yX3_take : MethodName := ⟨RX3, "take", "(LContextCoder$Ledger;)V"⟩
def RX4 : String := "ContextCoder$Model"
def TX4 : u_T := fun k => match k with
  | 0 => ("ContextCoder$Model", "met", "I", false)
  | 1 => ("ContextCoder$Model", "keys", "[I", true)
  | 2 => ("ContextCoder$Model", "weights", "[I", true)
  | 3 => ("ContextCoder$Model", "known", "[I", true)
  | _ => ("ContextCoder$Model", "counts", "[I", true)
def tyX4 : Nat → FieldType := fun k => match k with
  | 0 => .int
  | 1 => .array .int
  | 2 => .array .int
  | 3 => .array .int
  | _ => .array .int
theorem nmX4 : ∀ a, a < 5 → ∀ b, b < 5 → a ≠ b → (TX4 a).2.1 ≠ (TX4 b).2.1 := by decide +kernel
theorem tyX4_ok : ∀ k, k < 5 → parseFieldDescriptor (TX4 k).2.2.1 = some (tyX4 k) := by decide +kernel
abbrev cX4_init : ByteArray := prog_6_method_1_code
def yX4_init : MethodName := ⟨RX4, "<init>", "()V"⟩
abbrev cX4_clear : ByteArray := prog_6_method_2_code
def yX4_clear : MethodName := ⟨RX4, "clear", "()V"⟩
abbrev cX4_take : ByteArray := prog_6_method_3_code
def yX4_take : MethodName := ⟨RX4, "take", "(LContextCoder$Model;)V"⟩
abbrev cX4_find : ByteArray := prog_6_method_4_code
def yX4_find : MethodName := ⟨RX4, "find", "(I)I"⟩
abbrev cX4_meet : ByteArray := prog_6_method_5_code
def yX4_meet : MethodName := ⟨RX4, "meet", "(I)I"⟩
abbrev cX4_has : ByteArray := prog_6_method_6_code
def yX4_has : MethodName := ⟨RX4, "has", "(I)Z"⟩
abbrev cX4_countIn : ByteArray := prog_6_method_7_code
def yX4_countIn : MethodName := ⟨RX4, "countIn", "(II)I"⟩
abbrev cX4_weightOf : ByteArray := prog_6_method_8_code
def yX4_weightOf : MethodName := ⟨RX4, "weightOf", "(I)I"⟩
abbrev cX4_knownIn : ByteArray := prog_6_method_9_code
def yX4_knownIn : MethodName := ⟨RX4, "knownIn", "(I)I"⟩
abbrev cX4_raise : ByteArray := prog_6_method_10_code
def yX4_raise : MethodName := ⟨RX4, "raise", "(IIII)V"⟩
abbrev cX4_halve : ByteArray := prog_6_method_11_code
def yX4_halve : MethodName := ⟨RX4, "halve", "(I)V"⟩
def RX5 : String := "ContextCoder$Route"
def TX5 : u_T := fun k => match k with
  | 0 => ("ContextCoder$Route", "from", "LContextCoder$Row;", true)
  | 1 => ("ContextCoder$Route", "to", "LContextCoder$Row;", true)
  | 2 => ("ContextCoder$Route", "of", "LContextCoder$Row;", true)
  | _ => ("ContextCoder$Route", "order", "I", false)
def tyX5 : Nat → FieldType := fun k => match k with
  | 0 => .object "ContextCoder$Row"
  | 1 => .object "ContextCoder$Row"
  | 2 => .object "ContextCoder$Row"
  | _ => .int
theorem nmX5 : ∀ a, a < 4 → ∀ b, b < 4 → a ≠ b → (TX5 a).2.1 ≠ (TX5 b).2.1 := by decide +kernel
theorem tyX5_ok : ∀ k, k < 4 → parseFieldDescriptor (TX5 k).2.2.1 = some (tyX5 k) := by decide +kernel
abbrev cX5_init : ByteArray := prog_7_method_1_code
def yX5_init : MethodName := ⟨RX5, "<init>", "()V"⟩
abbrev cX5_clear : ByteArray := prog_7_method_2_code
def yX5_clear : MethodName := ⟨RX5, "clear", "()V"⟩
abbrev cX5_add : ByteArray := prog_7_method_3_code
def yX5_add : MethodName := ⟨RX5, "add", "(III)V"⟩
abbrev cX5_size : ByteArray := prog_7_method_4_code
def yX5_size : MethodName := ⟨RX5, "size", "()I"⟩
abbrev cX5_sumOfCosts : ByteArray := prog_7_method_5_code
def yX5_sumOfCosts : MethodName := ⟨RX5, "sumOfCosts", "()I"⟩
def RX6 : String := "ContextCoder$Row"
def TX6 : u_T := fun k => match k with
  | 0 => ("ContextCoder$Row", "items", "[I", true)
  | _ => ("ContextCoder$Row", "size", "I", false)
def tyX6 : Nat → FieldType := fun k => match k with
  | 0 => .array .int
  | _ => .int
theorem nmX6 : ∀ a, a < 2 → ∀ b, b < 2 → a ≠ b → (TX6 a).2.1 ≠ (TX6 b).2.1 := by decide +kernel
theorem tyX6_ok : ∀ k, k < 2 → parseFieldDescriptor (TX6 k).2.2.1 = some (tyX6 k) := by decide +kernel
abbrev cX6_init : ByteArray := prog_8_method_1_code
def yX6_init : MethodName := ⟨RX6, "<init>", "(I)V"⟩
abbrev cX6_has : ByteArray := prog_8_method_2_code
def yX6_has : MethodName := ⟨RX6, "has", "(I)Z"⟩
abbrev cX6_item : ByteArray := prog_8_method_3_code
def yX6_item : MethodName := ⟨RX6, "item", "(I)I"⟩
abbrev cX6_put : ByteArray := prog_8_method_4_code
def yX6_put : MethodName := ⟨RX6, "put", "(II)V"⟩
abbrev cX6_push : ByteArray := prog_8_method_5_code
def yX6_push : MethodName := ⟨RX6, "push", "(I)V"⟩
abbrev cX6_drop : ByteArray := prog_8_method_6_code
def yX6_drop : MethodName := ⟨RX6, "drop", "(I)V"⟩
abbrev cX6_clear : ByteArray := prog_8_method_7_code
def yX6_clear : MethodName := ⟨RX6, "clear", "()V"⟩
abbrev cX6_take : ByteArray := prog_8_method_8_code
def yX6_take : MethodName := ⟨RX6, "take", "(LContextCoder$Row;)V"⟩
abbrev cX6_same : ByteArray := prog_8_method_9_code
def yX6_same : MethodName := ⟨RX6, "same", "(LContextCoder$Row;)Z"⟩
def RX7 : String := "ContextCoder$State"
def TX7 : u_T := fun k => match k with
  | 0 => ("ContextCoder$State", "order", "I", false)
  | 1 => ("ContextCoder$State", "exclusion", "Z", false)
  | 2 => ("ContextCoder$State", "step", "I", false)
  | 3 => ("ContextCoder$State", "limit", "I", false)
  | 4 => ("ContextCoder$State", "model", "LContextCoder$Model;", true)
  | 5 => ("ContextCoder$State", "code", "LContextCoder$Row;", true)
  | 6 => ("ContextCoder$State", "ledger", "LContextCoder$Ledger;", true)
  | _ => ("ContextCoder$State", "result", "LContextCoder$Row;", true)
def tyX7 : Nat → FieldType := fun k => match k with
  | 0 => .int
  | 1 => .boolean
  | 2 => .int
  | 3 => .int
  | 4 => .object "ContextCoder$Model"
  | 5 => .object "ContextCoder$Row"
  | 6 => .object "ContextCoder$Ledger"
  | _ => .object "ContextCoder$Row"
theorem nmX7 : ∀ a, a < 8 → ∀ b, b < 8 → a ≠ b → (TX7 a).2.1 ≠ (TX7 b).2.1 := by decide +kernel
theorem tyX7_ok : ∀ k, k < 8 → parseFieldDescriptor (TX7 k).2.2.1 = some (tyX7 k) := by decide +kernel
abbrev cX7_init : ByteArray := prog_9_method_1_code
def yX7_init : MethodName := ⟨RX7, "<init>", "()V"⟩
abbrev cX7_take : ByteArray := prog_9_method_2_code
def yX7_take : MethodName := ⟨RX7, "take", "(LContextCoder$State;)V"⟩
abbrev cX7_takeSettings : ByteArray := prog_9_method_3_code
def yX7_takeSettings : MethodName := ⟨RX7, "takeSettings", "(LContextCoder$State;)V"⟩
abbrev cX7_increase : ByteArray := prog_9_method_4_code
def yX7_increase : MethodName := ⟨RX7, "increase", "(LContextCoder$Row;II)V"⟩
def RX8 : String := "ContextCoder"
def TX8 : u_T := fun k => match k with
  | 0 => ("ContextCoder", "now", "LContextCoder$State;", true)
  | 1 => ("ContextCoder", "trial", "LContextCoder$State;", true)
  | 2 => ("ContextCoder", "past", "[LContextCoder$State;", true)
  | 3 => ("ContextCoder", "kept", "I", false)
  | 4 => ("ContextCoder", "text", "LContextCoder$Row;", true)
  | 5 => ("ContextCoder", "candidates", "LContextCoder$Candidates;", true)
  | 6 => ("ContextCoder", "route", "LContextCoder$Route;", true)
  | 7 => ("ContextCoder", "encoder", "LContextCoder$Encoder;", true)
  | _ => ("ContextCoder", "decoder", "LContextCoder$Decoder;", true)
def tyX8 : Nat → FieldType := fun k => match k with
  | 0 => .object "ContextCoder$State"
  | 1 => .object "ContextCoder$State"
  | 2 => .array (.object "ContextCoder$State")
  | 3 => .int
  | 4 => .object "ContextCoder$Row"
  | 5 => .object "ContextCoder$Candidates"
  | 6 => .object "ContextCoder$Route"
  | 7 => .object "ContextCoder$Encoder"
  | _ => .object "ContextCoder$Decoder"
theorem nmX8 : ∀ a, a < 9 → ∀ b, b < 9 → a ≠ b → (TX8 a).2.1 ≠ (TX8 b).2.1 := by decide +kernel
theorem tyX8_ok : ∀ k, k < 9 → parseFieldDescriptor (TX8 k).2.2.1 = some (tyX8 k) := by decide +kernel
abbrev cX8_init : ByteArray := prog_1_method_1_code
def yX8_init : MethodName := ⟨RX8, "<init>", "(I)V"⟩
abbrev cX8_setOrder : ByteArray := prog_1_method_2_code
def yX8_setOrder : MethodName := ⟨RX8, "setOrder", "(I)I"⟩
abbrev cX8_setExclusion : ByteArray := prog_1_method_3_code
def yX8_setExclusion : MethodName := ⟨RX8, "setExclusion", "(Z)I"⟩
abbrev cX8_setStep : ByteArray := prog_1_method_4_code
def yX8_setStep : MethodName := ⟨RX8, "setStep", "(I)I"⟩
abbrev cX8_setLimit : ByteArray := prog_1_method_5_code
def yX8_setLimit : MethodName := ⟨RX8, "setLimit", "(I)I"⟩
abbrev cX8_forget : ByteArray := prog_1_method_6_code
def yX8_forget : MethodName := ⟨RX8, "forget", "()I"⟩
abbrev cX8_learn : ByteArray := prog_1_method_7_code
def yX8_learn : MethodName := ⟨RX8, "learn", "()I"⟩
abbrev cX8_contexts : ByteArray := prog_1_method_8_code
def yX8_contexts : MethodName := ⟨RX8, "contexts", "()I"⟩
abbrev cX8_count : ByteArray := prog_1_method_9_code
def yX8_count : MethodName := ⟨RX8, "count", "(II)I"⟩
abbrev cX8_weight : ByteArray := prog_1_method_10_code
def yX8_weight : MethodName := ⟨RX8, "weight", "(I)I"⟩
abbrev cX8_price : ByteArray := prog_1_method_11_code
def yX8_price : MethodName := ⟨RX8, "price", "(I)I"⟩
abbrev cX8_guess : ByteArray := prog_1_method_12_code
def yX8_guess : MethodName := ⟨RX8, "guess", "()I"⟩
abbrev cX8_type : ByteArray := prog_1_method_13_code
def yX8_type : MethodName := ⟨RX8, "type", "(I)I"⟩
abbrev cX8_remove : ByteArray := prog_1_method_14_code
def yX8_remove : MethodName := ⟨RX8, "remove", "(I)I"⟩
abbrev cX8_encode : ByteArray := prog_1_method_15_code
def yX8_encode : MethodName := ⟨RX8, "encode", "()I"⟩
abbrev cX8_bytes : ByteArray := prog_1_method_16_code
def yX8_bytes : MethodName := ⟨RX8, "bytes", "()I"⟩
abbrev cX8_codeByte : ByteArray := prog_1_method_17_code
def yX8_codeByte : MethodName := ⟨RX8, "codeByte", "(I)I"⟩
abbrev cX8_longestCarry : ByteArray := prog_1_method_18_code
def yX8_longestCarry : MethodName := ⟨RX8, "longestCarry", "()I"⟩
abbrev cX8_decode : ByteArray := prog_1_method_19_code
def yX8_decode : MethodName := ⟨RX8, "decode", "()I"⟩
abbrev cX8_decoded : ByteArray := prog_1_method_20_code
def yX8_decoded : MethodName := ⟨RX8, "decoded", "(I)I"⟩
abbrev cX8_flip : ByteArray := prog_1_method_21_code
def yX8_flip : MethodName := ⟨RX8, "flip", "(II)I"⟩
abbrev cX8_cut : ByteArray := prog_1_method_22_code
def yX8_cut : MethodName := ⟨RX8, "cut", "(I)I"⟩
abbrev cX8_append : ByteArray := prog_1_method_23_code
def yX8_append : MethodName := ⟨RX8, "append", "(I)I"⟩
abbrev cX8_coded : ByteArray := prog_1_method_24_code
def yX8_coded : MethodName := ⟨RX8, "coded", "()I"⟩
abbrev cX8_account : ByteArray := prog_1_method_25_code
def yX8_account : MethodName := ⟨RX8, "account", "(II)I"⟩
abbrev cX8_cost : ByteArray := prog_1_method_26_code
def yX8_cost : MethodName := ⟨RX8, "cost", "()I"⟩
abbrev cX8_lg : ByteArray := prog_1_method_27_code
def yX8_lg : MethodName := ⟨RX8, "lg", "(II)I"⟩
abbrev cX8_undo : ByteArray := prog_1_method_28_code
def yX8_undo : MethodName := ⟨RX8, "undo", "()I"⟩
abbrev cX8_fingerprint : ByteArray := prog_1_method_29_code
def yX8_fingerprint : MethodName := ⟨RX8, "fingerprint", "()J"⟩
abbrev cX8_remember : ByteArray := prog_1_method_30_code
def yX8_remember : MethodName := ⟨RX8, "remember", "()V"⟩
abbrev cX8_rollPast : ByteArray := prog_1_method_31_code
def yX8_rollPast : MethodName := ⟨RX8, "rollPast", "()V"⟩
abbrev cX8_lastContext : ByteArray := prog_1_method_32_code
def yX8_lastContext : MethodName := ⟨RX8, "lastContext", "(I)I"⟩
abbrev cX8_codeOnTrial : ByteArray := prog_1_method_33_code
def yX8_codeOnTrial : MethodName := ⟨RX8, "codeOnTrial", "(LContextCoder$Row;)V"⟩
abbrev cX8_codeSymbol : ByteArray := prog_1_method_34_code
def yX8_codeSymbol : MethodName := ⟨RX8, "codeSymbol", "(LContextCoder$Row;II)V"⟩
abbrev cX8_plan : ByteArray := prog_1_method_35_code
def yX8_plan : MethodName := ⟨RX8, "plan", "(LContextCoder$State;LContextCoder$Row;II)V"⟩
abbrev cX8_readOnTrial : ByteArray := prog_1_method_36_code
def yX8_readOnTrial : MethodName := ⟨RX8, "readOnTrial", "()I"⟩
abbrev cX8_readSymbol : ByteArray := prog_1_method_37_code
def yX8_readSymbol : MethodName := ⟨RX8, "readSymbol", "(LContextCoder$Row;I)I"⟩
abbrev cX8_contextKey : ByteArray := prog_1_method_38_code
def yX8_contextKey : MethodName := ⟨RX8, "contextKey", "(LContextCoder$Row;II)I"⟩
abbrev cX8_checkNumber : ByteArray := prog_1_method_39_code
def yX8_checkNumber : MethodName := ⟨RX8, "checkNumber", "(LContextCoder$Row;)I"⟩
abbrev cX8_intervalCost : ByteArray := prog_1_method_40_code
def yX8_intervalCost : MethodName := ⟨RX8, "intervalCost", "(II)I"⟩
abbrev cX8_logarithm : ByteArray := prog_1_method_41_code
def yX8_logarithm : MethodName := ⟨RX8, "logarithm", "(I)I"⟩
def RX9 : String := "ContextCoderModel"
def TX9 : u_T := fun k => match k with
  | _ => ("", "", "", false)
def tyX9 : Nat → FieldType := fun k => match k with
  | _ => .int
theorem nmX9 : ∀ a, a < 0 → ∀ b, b < 0 → a ≠ b → (TX9 a).2.1 ≠ (TX9 b).2.1 := by decide +kernel
theorem tyX9_ok : ∀ k, k < 0 → parseFieldDescriptor (TX9 k).2.2.1 = some (tyX9 k) := by decide +kernel
def RJ9 : String := "java/lang/Math"
def TJ9 : u_T := fun k => match k with
  | _ => ("", "", "", false)
def tyJ9 : Nat → FieldType := fun k => match k with
  | _ => .int
theorem nmJ9 : ∀ a, a < 0 → ∀ b, b < 0 → a ≠ b → (TJ9 a).2.1 ≠ (TJ9 b).2.1 := by decide +kernel
theorem tyJ9_ok : ∀ k, k < 0 → parseFieldDescriptor (TJ9 k).2.2.1 = some (tyJ9 k) := by decide +kernel
abbrev cJ9_max_7cf53 : ByteArray := prog_12_method_65_code
def yJ9_max_7cf53 : MethodName := ⟨RJ9, "max", "(II)I"⟩
abbrev cJ9_min_7cf53 : ByteArray := prog_12_method_69_code
def yJ9_min_7cf53 : MethodName := ⟨RJ9, "min", "(II)I"⟩
abbrev cJ9_min_f86c9 : ByteArray := prog_12_method_70_code
def yJ9_min_f86c9 : MethodName := ⟨RJ9, "min", "(JJ)J"⟩
def RJ10 : String := "java/lang/System"
def TJ10 : u_T := fun k => match k with
  | _ => ("", "", "", false)
def tyJ10 : Nat → FieldType := fun k => match k with
  | _ => .int
theorem nmJ10 : ∀ a, a < 0 → ∀ b, b < 0 → a ≠ b → (TJ10 a).2.1 ≠ (TJ10 b).2.1 := by decide +kernel
theorem tyJ10_ok : ∀ k, k < 0 → parseFieldDescriptor (TJ10 k).2.2.1 = some (tyJ10 k) := by decide +kernel
def RL : String := "ContextCoderLaw"
abbrev cL_cell : ByteArray := method_2_code
def yL_cell : MethodName := ⟨RL, "cell", "([II)I"⟩
abbrev cL_up : ByteArray := method_3_code
def yL_up : MethodName := ⟨RL, "up", "(II)I"⟩
abbrev cL_fails : ByteArray := method_4_code
def yL_fails : MethodName := ⟨RL, "fails", "(LContextCoder;)Z"⟩
abbrev cL_types : ByteArray := method_5_code
def yL_types : MethodName := ⟨RL, "types", "(LContextCoder;III)I"⟩
abbrev cL_codes : ByteArray := method_6_code
def yL_codes : MethodName := ⟨RL, "codes", "(LContextCoder;I)Z"⟩
abbrev cL_decodes : ByteArray := method_7_code
def yL_decodes : MethodName := ⟨RL, "decodes", "(LContextCoder;I)Z"⟩
abbrev cL_agrees : ByteArray := method_8_code
def yL_agrees : MethodName := ⟨RL, "agrees", "(LContextCoder;III)Z"⟩
abbrev cL_damages : ByteArray := method_9_code
def yL_damages : MethodName := ⟨RL, "damages", "(LContextCoder;I)Z"⟩
abbrev cL_prices : ByteArray := method_10_code
def yL_prices : MethodName := ⟨RL, "prices", "(LContextCoder;I)Z"⟩
abbrev cL_law : ByteArray := code
def yL_law : MethodName := ⟨RL, "law", "([I)Z"⟩
abbrev classes : List vw_C := [(RX0, TX0, 2), (RX1, TX1, 4), (RX2, TX2, 4), (RX3, TX3, 5), (RX4, TX4, 5), (RX5, TX5, 4), (RX6, TX6, 2), (RX7, TX7, 8), (RX8, TX8, 9)]
