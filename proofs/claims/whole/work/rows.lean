section
-- ===== PART A: goes FIRST, ahead of the names: the tables' words, and 'selects' of the private methods out of them =====
/-- a private method of a class that the tables say can be made, by its rows of tables_1 -/
def lw_okq (q : MethodName × Nat) : Prop := (q.1.cls ≠ "java/lang/invoke/MethodHandle" ∧ q.1.cls ≠ "java/lang/invoke/VarHandle") ∧ Cond.instantiable q.1.cls q.2 ∈ tables_1 ∧ Cond.privateMethod q.1 ∈ tables_1 ∧ Cond.instanceMethod q.1 ∈ tables_1
theorem lw_p0 : lw_okq (⟨"ContextCoder", "remember", "()V"⟩, 9) := ⟨⟨by decide +kernel, by decide +kernel⟩, List.mem_of_getElem? (i := 14) (by decide +kernel), List.mem_of_getElem? (i := 255) (by decide +kernel), List.mem_of_getElem? (i := 256) (by decide +kernel)⟩
theorem lw_p1 : lw_okq (⟨"ContextCoder", "rollPast", "()V"⟩, 9) := ⟨⟨by decide +kernel, by decide +kernel⟩, List.mem_of_getElem? (i := 14) (by decide +kernel), List.mem_of_getElem? (i := 259) (by decide +kernel), List.mem_of_getElem? (i := 260) (by decide +kernel)⟩
theorem lw_p2 : lw_okq (⟨"ContextCoder$Model", "has", "(I)Z"⟩, 5) := ⟨⟨by decide +kernel, by decide +kernel⟩, List.mem_of_getElem? (i := 28) (by decide +kernel), List.mem_of_getElem? (i := 346) (by decide +kernel), List.mem_of_getElem? (i := 347) (by decide +kernel)⟩
theorem lw_p3 : lw_okq (⟨"ContextCoder$Model", "halve", "(I)V"⟩, 5) := ⟨⟨by decide +kernel, by decide +kernel⟩, List.mem_of_getElem? (i := 28) (by decide +kernel), List.mem_of_getElem? (i := 350) (by decide +kernel), List.mem_of_getElem? (i := 351) (by decide +kernel)⟩
theorem lw_p4 : lw_okq (⟨"ContextCoder", "lastContext", "(I)I"⟩, 9) := ⟨⟨by decide +kernel, by decide +kernel⟩, List.mem_of_getElem? (i := 14) (by decide +kernel), List.mem_of_getElem? (i := 359) (by decide +kernel), List.mem_of_getElem? (i := 360) (by decide +kernel)⟩
theorem lw_p5 : lw_okq (⟨"ContextCoder", "plan", "(LContextCoder$State;LContextCoder$Row;II)V"⟩, 9) := ⟨⟨by decide +kernel, by decide +kernel⟩, List.mem_of_getElem? (i := 14) (by decide +kernel), List.mem_of_getElem? (i := 381) (by decide +kernel), List.mem_of_getElem? (i := 382) (by decide +kernel)⟩
theorem lw_p6 : lw_okq (⟨"ContextCoder", "codeOnTrial", "(LContextCoder$Row;)V"⟩, 9) := ⟨⟨by decide +kernel, by decide +kernel⟩, List.mem_of_getElem? (i := 14) (by decide +kernel), List.mem_of_getElem? (i := 471) (by decide +kernel), List.mem_of_getElem? (i := 472) (by decide +kernel)⟩
theorem lw_p7 : lw_okq (⟨"ContextCoder", "codeSymbol", "(LContextCoder$Row;II)V"⟩, 9) := ⟨⟨by decide +kernel, by decide +kernel⟩, List.mem_of_getElem? (i := 14) (by decide +kernel), List.mem_of_getElem? (i := 488) (by decide +kernel), List.mem_of_getElem? (i := 489) (by decide +kernel)⟩
theorem lw_p8 : lw_okq (⟨"ContextCoder$Encoder", "carry", "()V"⟩, 4) := ⟨⟨by decide +kernel, by decide +kernel⟩, List.mem_of_getElem? (i := 177) (by decide +kernel), List.mem_of_getElem? (i := 500) (by decide +kernel), List.mem_of_getElem? (i := 501) (by decide +kernel)⟩
theorem lw_p9 : lw_okq (⟨"ContextCoder$Encoder", "leastMultiple", "(I)J"⟩, 4) := ⟨⟨by decide +kernel, by decide +kernel⟩, List.mem_of_getElem? (i := 177) (by decide +kernel), List.mem_of_getElem? (i := 526) (by decide +kernel), List.mem_of_getElem? (i := 527) (by decide +kernel)⟩
theorem lw_p10 : lw_okq (⟨"ContextCoder", "readOnTrial", "()I"⟩, 9) := ⟨⟨by decide +kernel, by decide +kernel⟩, List.mem_of_getElem? (i := 14) (by decide +kernel), List.mem_of_getElem? (i := 551) (by decide +kernel), List.mem_of_getElem? (i := 552) (by decide +kernel)⟩
theorem lw_p11 : lw_okq (⟨"ContextCoder$Decoder", "shift", "()V"⟩, 4) := ⟨⟨by decide +kernel, by decide +kernel⟩, List.mem_of_getElem? (i := 200) (by decide +kernel), List.mem_of_getElem? (i := 560) (by decide +kernel), List.mem_of_getElem? (i := 561) (by decide +kernel)⟩
theorem lw_p12 : lw_okq (⟨"ContextCoder", "readSymbol", "(LContextCoder$Row;I)I"⟩, 9) := ⟨⟨by decide +kernel, by decide +kernel⟩, List.mem_of_getElem? (i := 14) (by decide +kernel), List.mem_of_getElem? (i := 567) (by decide +kernel), List.mem_of_getElem? (i := 568) (by decide +kernel)⟩
theorem lw_p13 : lw_okq (⟨"ContextCoderModel", "sets", "(II)I"⟩, 22) := ⟨⟨by decide +kernel, by decide +kernel⟩, List.mem_of_getElem? (i := 648) (by decide +kernel), List.mem_of_getElem? (i := 729) (by decide +kernel), List.mem_of_getElem? (i := 730) (by decide +kernel)⟩
theorem lw_p14 : lw_okq (⟨"ContextCoderModel", "keeps", "([I)V"⟩, 22) := ⟨⟨by decide +kernel, by decide +kernel⟩, List.mem_of_getElem? (i := 648) (by decide +kernel), List.mem_of_getElem? (i := 733) (by decide +kernel), List.mem_of_getElem? (i := 734) (by decide +kernel)⟩
theorem lw_p15 : lw_okq (⟨"ContextCoderModel", "empties", "()V"⟩, 22) := ⟨⟨by decide +kernel, by decide +kernel⟩, List.mem_of_getElem? (i := 648) (by decide +kernel), List.mem_of_getElem? (i := 738) (by decide +kernel), List.mem_of_getElem? (i := 739) (by decide +kernel)⟩
def lw_privs_1 : List (MethodName × Nat) := [(⟨"ContextCoder", "remember", "()V"⟩, 9), (⟨"ContextCoder", "rollPast", "()V"⟩, 9), (⟨"ContextCoder$Model", "has", "(I)Z"⟩, 5), (⟨"ContextCoder$Model", "halve", "(I)V"⟩, 5), (⟨"ContextCoder", "lastContext", "(I)I"⟩, 9), (⟨"ContextCoder", "plan", "(LContextCoder$State;LContextCoder$Row;II)V"⟩, 9), (⟨"ContextCoder", "codeOnTrial", "(LContextCoder$Row;)V"⟩, 9), (⟨"ContextCoder", "codeSymbol", "(LContextCoder$Row;II)V"⟩, 9), (⟨"ContextCoder$Encoder", "carry", "()V"⟩, 4), (⟨"ContextCoder$Encoder", "leastMultiple", "(I)J"⟩, 4), (⟨"ContextCoder", "readOnTrial", "()I"⟩, 9), (⟨"ContextCoder$Decoder", "shift", "()V"⟩, 4), (⟨"ContextCoder", "readSymbol", "(LContextCoder$Row;I)I"⟩, 9), (⟨"ContextCoderModel", "sets", "(II)I"⟩, 22), (⟨"ContextCoderModel", "keeps", "([I)V"⟩, 22), (⟨"ContextCoderModel", "empties", "()V"⟩, 22)]
theorem lw_r1 : ∀ q ∈ lw_privs_1, lw_okq q := List.forall_mem_cons.mpr ⟨lw_p0, List.forall_mem_cons.mpr ⟨lw_p1, List.forall_mem_cons.mpr ⟨lw_p2, List.forall_mem_cons.mpr ⟨lw_p3, List.forall_mem_cons.mpr ⟨lw_p4, List.forall_mem_cons.mpr ⟨lw_p5, List.forall_mem_cons.mpr ⟨lw_p6, List.forall_mem_cons.mpr ⟨lw_p7, List.forall_mem_cons.mpr ⟨lw_p8, List.forall_mem_cons.mpr ⟨lw_p9, List.forall_mem_cons.mpr ⟨lw_p10, List.forall_mem_cons.mpr ⟨lw_p11, List.forall_mem_cons.mpr ⟨lw_p12, List.forall_mem_cons.mpr ⟨lw_p13, List.forall_mem_cons.mpr ⟨lw_p14, List.forall_mem_cons.mpr ⟨lw_p15, fun _ h => absurd h List.not_mem_nil⟩⟩⟩⟩⟩⟩⟩⟩⟩⟩⟩⟩⟩⟩⟩⟩
theorem lw_p16 : lw_okq (⟨"ContextCoderModel", "symbolAt", "([III)I"⟩, 22) := ⟨⟨by decide +kernel, by decide +kernel⟩, List.mem_of_getElem? (i := 648) (by decide +kernel), List.mem_of_getElem? (i := 762) (by decide +kernel), List.mem_of_getElem? (i := 763) (by decide +kernel)⟩
theorem lw_p17 : lw_okq (⟨"ContextCoderModel", "learns", "([III)V"⟩, 22) := ⟨⟨by decide +kernel, by decide +kernel⟩, List.mem_of_getElem? (i := 648) (by decide +kernel), List.mem_of_getElem? (i := 766) (by decide +kernel), List.mem_of_getElem? (i := 767) (by decide +kernel)⟩
theorem lw_p18 : lw_okq (⟨"ContextCoderModel", "find", "([III)I"⟩, 22) := ⟨⟨by decide +kernel, by decide +kernel⟩, List.mem_of_getElem? (i := 648) (by decide +kernel), List.mem_of_getElem? (i := 770) (by decide +kernel), List.mem_of_getElem? (i := 771) (by decide +kernel)⟩
theorem lw_p19 : lw_okq (⟨"ContextCoderModel", "counts", "(II)V"⟩, 22) := ⟨⟨by decide +kernel, by decide +kernel⟩, List.mem_of_getElem? (i := 648) (by decide +kernel), List.mem_of_getElem? (i := 777) (by decide +kernel), List.mem_of_getElem? (i := 778) (by decide +kernel)⟩
theorem lw_p20 : lw_okq (⟨"ContextCoderModel", "weightOf", "(I)I"⟩, 22) := ⟨⟨by decide +kernel, by decide +kernel⟩, List.mem_of_getElem? (i := 648) (by decide +kernel), List.mem_of_getElem? (i := 781) (by decide +kernel), List.mem_of_getElem? (i := 782) (by decide +kernel)⟩
theorem lw_p21 : lw_okq (⟨"ContextCoderModel", "countAt", "(II)I"⟩, 22) := ⟨⟨by decide +kernel, by decide +kernel⟩, List.mem_of_getElem? (i := 648) (by decide +kernel), List.mem_of_getElem? (i := 785) (by decide +kernel), List.mem_of_getElem? (i := 786) (by decide +kernel)⟩
theorem lw_p22 : lw_okq (⟨"ContextCoderModel", "priceOf", "(I)I"⟩, 22) := ⟨⟨by decide +kernel, by decide +kernel⟩, List.mem_of_getElem? (i := 648) (by decide +kernel), List.mem_of_getElem? (i := 805) (by decide +kernel), List.mem_of_getElem? (i := 806) (by decide +kernel)⟩
theorem lw_p23 : lw_okq (⟨"ContextCoderModel", "codes", "([III)V"⟩, 22) := ⟨⟨by decide +kernel, by decide +kernel⟩, List.mem_of_getElem? (i := 648) (by decide +kernel), List.mem_of_getElem? (i := 809) (by decide +kernel), List.mem_of_getElem? (i := 810) (by decide +kernel)⟩
theorem lw_p24 : lw_okq (⟨"ContextCoderModel", "clears", "()V"⟩, 22) := ⟨⟨by decide +kernel, by decide +kernel⟩, List.mem_of_getElem? (i := 648) (by decide +kernel), List.mem_of_getElem? (i := 813) (by decide +kernel), List.mem_of_getElem? (i := 814) (by decide +kernel)⟩
theorem lw_p25 : lw_okq (⟨"ContextCoderModel", "below", "(II)I"⟩, 22) := ⟨⟨by decide +kernel, by decide +kernel⟩, List.mem_of_getElem? (i := 648) (by decide +kernel), List.mem_of_getElem? (i := 817) (by decide +kernel), List.mem_of_getElem? (i := 818) (by decide +kernel)⟩
theorem lw_p26 : lw_okq (⟨"ContextCoderModel", "known", "(I)I"⟩, 22) := ⟨⟨by decide +kernel, by decide +kernel⟩, List.mem_of_getElem? (i := 648) (by decide +kernel), List.mem_of_getElem? (i := 821) (by decide +kernel), List.mem_of_getElem? (i := 822) (by decide +kernel)⟩
theorem lw_p27 : lw_okq (⟨"ContextCoderModel", "interval", "(III)V"⟩, 22) := ⟨⟨by decide +kernel, by decide +kernel⟩, List.mem_of_getElem? (i := 648) (by decide +kernel), List.mem_of_getElem? (i := 825) (by decide +kernel), List.mem_of_getElem? (i := 826) (by decide +kernel)⟩
theorem lw_p28 : lw_okq (⟨"ContextCoderModel", "writes", "(JJJ)V"⟩, 22) := ⟨⟨by decide +kernel, by decide +kernel⟩, List.mem_of_getElem? (i := 648) (by decide +kernel), List.mem_of_getElem? (i := 835) (by decide +kernel), List.mem_of_getElem? (i := 836) (by decide +kernel)⟩
theorem lw_p29 : lw_okq (⟨"ContextCoderModel", "carries", "()V"⟩, 22) := ⟨⟨by decide +kernel, by decide +kernel⟩, List.mem_of_getElem? (i := 648) (by decide +kernel), List.mem_of_getElem? (i := 840) (by decide +kernel), List.mem_of_getElem? (i := 841) (by decide +kernel)⟩
theorem lw_p30 : lw_okq (⟨"ContextCoderModel", "excludes", "(I)V"⟩, 22) := ⟨⟨by decide +kernel, by decide +kernel⟩, List.mem_of_getElem? (i := 648) (by decide +kernel), List.mem_of_getElem? (i := 846) (by decide +kernel), List.mem_of_getElem? (i := 847) (by decide +kernel)⟩
theorem lw_p31 : lw_okq (⟨"ContextCoderModel", "codesAll", "([II)V"⟩, 22) := ⟨⟨by decide +kernel, by decide +kernel⟩, List.mem_of_getElem? (i := 648) (by decide +kernel), List.mem_of_getElem? (i := 869) (by decide +kernel), List.mem_of_getElem? (i := 870) (by decide +kernel)⟩
def lw_privs_2 : List (MethodName × Nat) := [(⟨"ContextCoderModel", "symbolAt", "([III)I"⟩, 22), (⟨"ContextCoderModel", "learns", "([III)V"⟩, 22), (⟨"ContextCoderModel", "find", "([III)I"⟩, 22), (⟨"ContextCoderModel", "counts", "(II)V"⟩, 22), (⟨"ContextCoderModel", "weightOf", "(I)I"⟩, 22), (⟨"ContextCoderModel", "countAt", "(II)I"⟩, 22), (⟨"ContextCoderModel", "priceOf", "(I)I"⟩, 22), (⟨"ContextCoderModel", "codes", "([III)V"⟩, 22), (⟨"ContextCoderModel", "clears", "()V"⟩, 22), (⟨"ContextCoderModel", "below", "(II)I"⟩, 22), (⟨"ContextCoderModel", "known", "(I)I"⟩, 22), (⟨"ContextCoderModel", "interval", "(III)V"⟩, 22), (⟨"ContextCoderModel", "writes", "(JJJ)V"⟩, 22), (⟨"ContextCoderModel", "carries", "()V"⟩, 22), (⟨"ContextCoderModel", "excludes", "(I)V"⟩, 22), (⟨"ContextCoderModel", "codesAll", "([II)V"⟩, 22)]
theorem lw_r2 : ∀ q ∈ lw_privs_2, lw_okq q := List.forall_mem_cons.mpr ⟨lw_p16, List.forall_mem_cons.mpr ⟨lw_p17, List.forall_mem_cons.mpr ⟨lw_p18, List.forall_mem_cons.mpr ⟨lw_p19, List.forall_mem_cons.mpr ⟨lw_p20, List.forall_mem_cons.mpr ⟨lw_p21, List.forall_mem_cons.mpr ⟨lw_p22, List.forall_mem_cons.mpr ⟨lw_p23, List.forall_mem_cons.mpr ⟨lw_p24, List.forall_mem_cons.mpr ⟨lw_p25, List.forall_mem_cons.mpr ⟨lw_p26, List.forall_mem_cons.mpr ⟨lw_p27, List.forall_mem_cons.mpr ⟨lw_p28, List.forall_mem_cons.mpr ⟨lw_p29, List.forall_mem_cons.mpr ⟨lw_p30, List.forall_mem_cons.mpr ⟨lw_p31, fun _ h => absurd h List.not_mem_nil⟩⟩⟩⟩⟩⟩⟩⟩⟩⟩⟩⟩⟩⟩⟩⟩
theorem lw_p32 : lw_okq (⟨"ContextCoderModel", "starts", "()V"⟩, 22) := ⟨⟨by decide +kernel, by decide +kernel⟩, List.mem_of_getElem? (i := 648) (by decide +kernel), List.mem_of_getElem? (i := 873) (by decide +kernel), List.mem_of_getElem? (i := 874) (by decide +kernel)⟩
theorem lw_p33 : lw_okq (⟨"ContextCoderModel", "finishes", "()V"⟩, 22) := ⟨⟨by decide +kernel, by decide +kernel⟩, List.mem_of_getElem? (i := 648) (by decide +kernel), List.mem_of_getElem? (i := 882) (by decide +kernel), List.mem_of_getElem? (i := 883) (by decide +kernel)⟩
theorem lw_p34 : lw_okq (⟨"ContextCoderModel", "decodesAll", "()I"⟩, 22) := ⟨⟨by decide +kernel, by decide +kernel⟩, List.mem_of_getElem? (i := 648) (by decide +kernel), List.mem_of_getElem? (i := 903) (by decide +kernel), List.mem_of_getElem? (i := 904) (by decide +kernel)⟩
theorem lw_p35 : lw_okq (⟨"ContextCoderModel", "nextByte", "()I"⟩, 22) := ⟨⟨by decide +kernel, by decide +kernel⟩, List.mem_of_getElem? (i := 648) (by decide +kernel), List.mem_of_getElem? (i := 907) (by decide +kernel), List.mem_of_getElem? (i := 908) (by decide +kernel)⟩
theorem lw_p36 : lw_okq (⟨"ContextCoderModel", "decodes", "([II)I"⟩, 22) := ⟨⟨by decide +kernel, by decide +kernel⟩, List.mem_of_getElem? (i := 648) (by decide +kernel), List.mem_of_getElem? (i := 911) (by decide +kernel), List.mem_of_getElem? (i := 912) (by decide +kernel)⟩
theorem lw_p37 : lw_okq (⟨"ContextCoderModel", "target", "(I)I"⟩, 22) := ⟨⟨by decide +kernel, by decide +kernel⟩, List.mem_of_getElem? (i := 648) (by decide +kernel), List.mem_of_getElem? (i := 915) (by decide +kernel), List.mem_of_getElem? (i := 916) (by decide +kernel)⟩
theorem lw_p38 : lw_okq (⟨"ContextCoderModel", "reads", "(III)V"⟩, 22) := ⟨⟨by decide +kernel, by decide +kernel⟩, List.mem_of_getElem? (i := 648) (by decide +kernel), List.mem_of_getElem? (i := 919) (by decide +kernel), List.mem_of_getElem? (i := 920) (by decide +kernel)⟩
theorem lw_p39 : lw_okq (⟨"ContextCoderModel", "isCode", "()Z"⟩, 22) := ⟨⟨by decide +kernel, by decide +kernel⟩, List.mem_of_getElem? (i := 648) (by decide +kernel), List.mem_of_getElem? (i := 923) (by decide +kernel), List.mem_of_getElem? (i := 924) (by decide +kernel)⟩
def lw_privs_3 : List (MethodName × Nat) := [(⟨"ContextCoderModel", "starts", "()V"⟩, 22), (⟨"ContextCoderModel", "finishes", "()V"⟩, 22), (⟨"ContextCoderModel", "decodesAll", "()I"⟩, 22), (⟨"ContextCoderModel", "nextByte", "()I"⟩, 22), (⟨"ContextCoderModel", "decodes", "([II)I"⟩, 22), (⟨"ContextCoderModel", "target", "(I)I"⟩, 22), (⟨"ContextCoderModel", "reads", "(III)V"⟩, 22), (⟨"ContextCoderModel", "isCode", "()Z"⟩, 22)]
theorem lw_r3 : ∀ q ∈ lw_privs_3, lw_okq q := List.forall_mem_cons.mpr ⟨lw_p32, List.forall_mem_cons.mpr ⟨lw_p33, List.forall_mem_cons.mpr ⟨lw_p34, List.forall_mem_cons.mpr ⟨lw_p35, List.forall_mem_cons.mpr ⟨lw_p36, List.forall_mem_cons.mpr ⟨lw_p37, List.forall_mem_cons.mpr ⟨lw_p38, List.forall_mem_cons.mpr ⟨lw_p39, fun _ h => absurd h List.not_mem_nil⟩⟩⟩⟩⟩⟩⟩⟩
def lw_privs : List (MethodName × Nat) := lw_privs_1 ++ (lw_privs_2 ++ (lw_privs_3))
def lw_tbl : List Cond := k2_sels lw_privs ++ tables_1
theorem lw_privs_ok : ∀ q ∈ lw_privs, lw_okq q := by
  show ∀ q ∈ lw_privs_1 ++ (lw_privs_2 ++ (lw_privs_3)), lw_okq q
  exact List.forall_mem_append.mpr ⟨lw_r1, List.forall_mem_append.mpr ⟨lw_r2, lw_r3⟩⟩
def RX0 : String := "ContextCoder$Candidates"
def TX0 : u_T := fun k => match k with
  | 0 => ("ContextCoder$Candidates", "excluded", "[Z", true)
  | _ => ("ContextCoder$Candidates", "untouched", "Z", false)
def tyX0 : Nat → FieldType := fun k => match k with
  | 0 => .array .boolean
  | _ => .boolean
theorem nmX0 : ∀ a, a < 2 → ∀ b, b < 2 → a ≠ b → (TX0 a).2.1 ≠ (TX0 b).2.1 := by decide +kernel
theorem tyX0_ok : ∀ k, k < 2 → parseFieldDescriptor (TX0 k).2.2.1 = some (tyX0 k) := by decide +kernel
abbrev cX0_init : ByteArray := prog_2_method_1_code
def yX0_init : MethodName := ⟨RX0, "<init>", "()V"⟩
abbrev cX0_restart : ByteArray := prog_2_method_2_code
def yX0_restart : MethodName := ⟨RX0, "restart", "()V"⟩
abbrev cX0_remains : ByteArray := prog_2_method_3_code
def yX0_remains : MethodName := ⟨RX0, "remains", "(I)Z"⟩
abbrev cX0_holds : ByteArray := prog_2_method_4_code
def yX0_holds : MethodName := ⟨RX0, "holds", "(LContextCoder$Model;II)Z"⟩
abbrev cX0_sum : ByteArray := prog_2_method_5_code
def yX0_sum : MethodName := ⟨RX0, "sum", "(LContextCoder$Model;I)I"⟩
abbrev cX0_sumBelow : ByteArray := prog_2_method_6_code
def yX0_sumBelow : MethodName := ⟨RX0, "sumBelow", "(LContextCoder$Model;II)I"⟩
abbrev cX0_symbolAt : ByteArray := prog_2_method_7_code
def yX0_symbolAt : MethodName := ⟨RX0, "symbolAt", "(LContextCoder$Model;II)I"⟩
abbrev cX0_leave : ByteArray := prog_2_method_8_code
def yX0_leave : MethodName := ⟨RX0, "leave", "(LContextCoder$State;I)V"⟩
abbrev cX0_remainingBelow : ByteArray := prog_2_method_9_code
def yX0_remainingBelow : MethodName := ⟨RX0, "remainingBelow", "(I)I"⟩
abbrev cX0_remainingAt : ByteArray := prog_2_method_10_code
def yX0_remainingAt : MethodName := ⟨RX0, "remainingAt", "(I)I"⟩
def RX1 : String := "ContextCoder$Decoder"
def TX1 : u_T := fun k => match k with
  | 0 => ("ContextCoder$Decoder", "code", "LContextCoder$Row;", false)
  | 1 => ("ContextCoder$Decoder", "next", "I", false)
  | 2 => ("ContextCoder$Decoder", "distance", "J", false)
  | _ => ("ContextCoder$Decoder", "range", "J", false)
def tyX1 : Nat → FieldType := fun k => match k with
  | 0 => .object "ContextCoder$Row"
  | 1 => .int
  | 2 => .long
  | _ => .long
theorem nmX1 : ∀ a, a < 4 → ∀ b, b < 4 → a ≠ b → (TX1 a).2.1 ≠ (TX1 b).2.1 := by decide +kernel
theorem tyX1_ok : ∀ k, k < 4 → parseFieldDescriptor (TX1 k).2.2.1 = some (tyX1 k) := by decide +kernel
abbrev cX1_init : ByteArray := prog_3_method_1_code
def yX1_init : MethodName := ⟨RX1, "<init>", "()V"⟩
abbrev cX1_begin : ByteArray := prog_3_method_2_code
def yX1_begin : MethodName := ⟨RX1, "begin", "(LContextCoder$Row;)V"⟩
abbrev cX1_shift : ByteArray := prog_3_method_3_code
def yX1_shift : MethodName := ⟨RX1, "shift", "()V"⟩
abbrev cX1_number : ByteArray := prog_3_method_4_code
def yX1_number : MethodName := ⟨RX1, "number", "(I)I"⟩
abbrev cX1_interval : ByteArray := prog_3_method_5_code
def yX1_interval : MethodName := ⟨RX1, "interval", "(III)V"⟩
def RX2 : String := "ContextCoder$Encoder"
def TX2 : u_T := fun k => match k with
  | 0 => ("ContextCoder$Encoder", "low", "J", false)
  | 1 => ("ContextCoder$Encoder", "range", "J", false)
  | 2 => ("ContextCoder$Encoder", "out", "LContextCoder$Row;", true)
  | _ => ("ContextCoder$Encoder", "longest", "I", false)
def tyX2 : Nat → FieldType := fun k => match k with
  | 0 => .long
  | 1 => .long
  | 2 => .object "ContextCoder$Row"
  | _ => .int
theorem nmX2 : ∀ a, a < 4 → ∀ b, b < 4 → a ≠ b → (TX2 a).2.1 ≠ (TX2 b).2.1 := by decide +kernel
theorem tyX2_ok : ∀ k, k < 4 → parseFieldDescriptor (TX2 k).2.2.1 = some (tyX2 k) := by decide +kernel
abbrev cX2_init : ByteArray := prog_4_method_1_code
def yX2_init : MethodName := ⟨RX2, "<init>", "()V"⟩
abbrev cX2_begin : ByteArray := prog_4_method_2_code
def yX2_begin : MethodName := ⟨RX2, "begin", "()V"⟩
abbrev cX2_interval : ByteArray := prog_4_method_3_code
def yX2_interval : MethodName := ⟨RX2, "interval", "(III)V"⟩
abbrev cX2_carry : ByteArray := prog_4_method_4_code
def yX2_carry : MethodName := ⟨RX2, "carry", "()V"⟩
abbrev cX2_finish : ByteArray := prog_4_method_5_code
def yX2_finish : MethodName := ⟨RX2, "finish", "()V"⟩
abbrev cX2_leastMultiple : ByteArray := prog_4_method_6_code
def yX2_leastMultiple : MethodName := ⟨RX2, "leastMultiple", "(I)J"⟩
def RX3 : String := "ContextCoder$Ledger"
def TX3 : u_T := fun k => match k with
  | 0 => ("ContextCoder$Ledger", "costs", "LContextCoder$Row;", true)
  | 1 => ("ContextCoder$Ledger", "escapes", "LContextCoder$Row;", true)
  | 2 => ("ContextCoder$Ledger", "orders", "LContextCoder$Row;", true)
  | 3 => ("ContextCoder$Ledger", "symbols", "LContextCoder$Row;", true)
  | _ => ("ContextCoder$Ledger", "longest", "I", false)
def tyX3 : Nat → FieldType := fun k => match k with
  | 0 => .object "ContextCoder$Row"
  | 1 => .object "ContextCoder$Row"
  | 2 => .object "ContextCoder$Row"
  | 3 => .object "ContextCoder$Row"
  | _ => .int
theorem nmX3 : ∀ a, a < 5 → ∀ b, b < 5 → a ≠ b → (TX3 a).2.1 ≠ (TX3 b).2.1 := by decide +kernel
theorem tyX3_ok : ∀ k, k < 5 → parseFieldDescriptor (TX3 k).2.2.1 = some (tyX3 k) := by decide +kernel
abbrev cX3_init : ByteArray := prog_5_method_1_code
def yX3_init : MethodName := ⟨RX3, "<init>", "()V"⟩
abbrev cX3_clear : ByteArray := prog_5_method_2_code
def yX3_clear : MethodName := ⟨RX3, "clear", "()V"⟩
abbrev cX3_add : ByteArray := prog_5_method_3_code
def yX3_add : MethodName := ⟨RX3, "add", "(IIII)V"⟩
abbrev cX3_take : ByteArray := prog_5_method_4_code
def yX3_take : MethodName := ⟨RX3, "take", "(LContextCoder$Ledger;)V"⟩
def RX4 : String := "ContextCoder$Model"
def TX4 : u_T := fun k => match k with
  | 0 => ("ContextCoder$Model", "met", "I", false)
  | 1 => ("ContextCoder$Model", "keys", "[I", true)
  | 2 => ("ContextCoder$Model", "weights", "[I", true)
  | 3 => ("ContextCoder$Model", "known", "[I", true)
  | _ => ("ContextCoder$Model", "counts", "[I", true)
def tyX4 : Nat → FieldType := fun k => match k with
  | 0 => .int
  | 1 => .array .int
  | 2 => .array .int
  | 3 => .array .int
  | _ => .array .int
theorem nmX4 : ∀ a, a < 5 → ∀ b, b < 5 → a ≠ b → (TX4 a).2.1 ≠ (TX4 b).2.1 := by decide +kernel
theorem tyX4_ok : ∀ k, k < 5 → parseFieldDescriptor (TX4 k).2.2.1 = some (tyX4 k) := by decide +kernel
abbrev cX4_init : ByteArray := prog_6_method_1_code
def yX4_init : MethodName := ⟨RX4, "<init>", "()V"⟩
abbrev cX4_clear : ByteArray := prog_6_method_2_code
def yX4_clear : MethodName := ⟨RX4, "clear", "()V"⟩
abbrev cX4_take : ByteArray := prog_6_method_3_code
def yX4_take : MethodName := ⟨RX4, "take", "(LContextCoder$Model;)V"⟩
abbrev cX4_find : ByteArray := prog_6_method_4_code
def yX4_find : MethodName := ⟨RX4, "find", "(I)I"⟩
abbrev cX4_meet : ByteArray := prog_6_method_5_code
def yX4_meet : MethodName := ⟨RX4, "meet", "(I)I"⟩
abbrev cX4_has : ByteArray := prog_6_method_6_code
def yX4_has : MethodName := ⟨RX4, "has", "(I)Z"⟩
abbrev cX4_countIn : ByteArray := prog_6_method_7_code
def yX4_countIn : MethodName := ⟨RX4, "countIn", "(II)I"⟩
abbrev cX4_weightOf : ByteArray := prog_6_method_8_code
def yX4_weightOf : MethodName := ⟨RX4, "weightOf", "(I)I"⟩
abbrev cX4_knownIn : ByteArray := prog_6_method_9_code
def yX4_knownIn : MethodName := ⟨RX4, "knownIn", "(I)I"⟩
abbrev cX4_raise : ByteArray := prog_6_method_10_code
def yX4_raise : MethodName := ⟨RX4, "raise", "(IIII)V"⟩
abbrev cX4_halve : ByteArray := prog_6_method_11_code
def yX4_halve : MethodName := ⟨RX4, "halve", "(I)V"⟩
def RX5 : String := "ContextCoder$Route"
def TX5 : u_T := fun k => match k with
  | 0 => ("ContextCoder$Route", "from", "LContextCoder$Row;", true)
  | 1 => ("ContextCoder$Route", "to", "LContextCoder$Row;", true)
  | 2 => ("ContextCoder$Route", "of", "LContextCoder$Row;", true)
  | _ => ("ContextCoder$Route", "order", "I", false)
def tyX5 : Nat → FieldType := fun k => match k with
  | 0 => .object "ContextCoder$Row"
  | 1 => .object "ContextCoder$Row"
  | 2 => .object "ContextCoder$Row"
  | _ => .int
theorem nmX5 : ∀ a, a < 4 → ∀ b, b < 4 → a ≠ b → (TX5 a).2.1 ≠ (TX5 b).2.1 := by decide +kernel
theorem tyX5_ok : ∀ k, k < 4 → parseFieldDescriptor (TX5 k).2.2.1 = some (tyX5 k) := by decide +kernel
abbrev cX5_init : ByteArray := prog_7_method_1_code
def yX5_init : MethodName := ⟨RX5, "<init>", "()V"⟩
abbrev cX5_clear : ByteArray := prog_7_method_2_code
def yX5_clear : MethodName := ⟨RX5, "clear", "()V"⟩
abbrev cX5_add : ByteArray := prog_7_method_3_code
def yX5_add : MethodName := ⟨RX5, "add", "(III)V"⟩
abbrev cX5_size : ByteArray := prog_7_method_4_code
def yX5_size : MethodName := ⟨RX5, "size", "()I"⟩
abbrev cX5_sumOfCosts : ByteArray := prog_7_method_5_code
def yX5_sumOfCosts : MethodName := ⟨RX5, "sumOfCosts", "()I"⟩
def RX6 : String := "ContextCoder$Row"
def TX6 : u_T := fun k => match k with
  | 0 => ("ContextCoder$Row", "items", "[I", true)
  | _ => ("ContextCoder$Row", "size", "I", false)
def tyX6 : Nat → FieldType := fun k => match k with
  | 0 => .array .int
  | _ => .int
theorem nmX6 : ∀ a, a < 2 → ∀ b, b < 2 → a ≠ b → (TX6 a).2.1 ≠ (TX6 b).2.1 := by decide +kernel
theorem tyX6_ok : ∀ k, k < 2 → parseFieldDescriptor (TX6 k).2.2.1 = some (tyX6 k) := by decide +kernel
abbrev cX6_init : ByteArray := prog_8_method_1_code
def yX6_init : MethodName := ⟨RX6, "<init>", "(I)V"⟩
abbrev cX6_has : ByteArray := prog_8_method_2_code
def yX6_has : MethodName := ⟨RX6, "has", "(I)Z"⟩
abbrev cX6_item : ByteArray := prog_8_method_3_code
def yX6_item : MethodName := ⟨RX6, "item", "(I)I"⟩
abbrev cX6_put : ByteArray := prog_8_method_4_code
def yX6_put : MethodName := ⟨RX6, "put", "(II)V"⟩
abbrev cX6_push : ByteArray := prog_8_method_5_code
def yX6_push : MethodName := ⟨RX6, "push", "(I)V"⟩
abbrev cX6_drop : ByteArray := prog_8_method_6_code
def yX6_drop : MethodName := ⟨RX6, "drop", "(I)V"⟩
abbrev cX6_clear : ByteArray := prog_8_method_7_code
def yX6_clear : MethodName := ⟨RX6, "clear", "()V"⟩
abbrev cX6_take : ByteArray := prog_8_method_8_code
def yX6_take : MethodName := ⟨RX6, "take", "(LContextCoder$Row;)V"⟩
abbrev cX6_same : ByteArray := prog_8_method_9_code
def yX6_same : MethodName := ⟨RX6, "same", "(LContextCoder$Row;)Z"⟩
def RX7 : String := "ContextCoder$State"
def TX7 : u_T := fun k => match k with
  | 0 => ("ContextCoder$State", "order", "I", false)
  | 1 => ("ContextCoder$State", "exclusion", "Z", false)
  | 2 => ("ContextCoder$State", "step", "I", false)
  | 3 => ("ContextCoder$State", "limit", "I", false)
  | 4 => ("ContextCoder$State", "model", "LContextCoder$Model;", true)
  | 5 => ("ContextCoder$State", "code", "LContextCoder$Row;", true)
  | 6 => ("ContextCoder$State", "ledger", "LContextCoder$Ledger;", true)
  | _ => ("ContextCoder$State", "result", "LContextCoder$Row;", true)
def tyX7 : Nat → FieldType := fun k => match k with
  | 0 => .int
  | 1 => .boolean
  | 2 => .int
  | 3 => .int
  | 4 => .object "ContextCoder$Model"
  | 5 => .object "ContextCoder$Row"
  | 6 => .object "ContextCoder$Ledger"
  | _ => .object "ContextCoder$Row"
theorem nmX7 : ∀ a, a < 8 → ∀ b, b < 8 → a ≠ b → (TX7 a).2.1 ≠ (TX7 b).2.1 := by decide +kernel
theorem tyX7_ok : ∀ k, k < 8 → parseFieldDescriptor (TX7 k).2.2.1 = some (tyX7 k) := by decide +kernel
abbrev cX7_init : ByteArray := prog_9_method_1_code
def yX7_init : MethodName := ⟨RX7, "<init>", "()V"⟩
abbrev cX7_take : ByteArray := prog_9_method_2_code
def yX7_take : MethodName := ⟨RX7, "take", "(LContextCoder$State;)V"⟩
abbrev cX7_takeSettings : ByteArray := prog_9_method_3_code
def yX7_takeSettings : MethodName := ⟨RX7, "takeSettings", "(LContextCoder$State;)V"⟩
abbrev cX7_increase : ByteArray := prog_9_method_4_code
def yX7_increase : MethodName := ⟨RX7, "increase", "(LContextCoder$Row;II)V"⟩
def RX8 : String := "ContextCoder"
def TX8 : u_T := fun k => match k with
  | 0 => ("ContextCoder", "now", "LContextCoder$State;", true)
  | 1 => ("ContextCoder", "trial", "LContextCoder$State;", true)
  | 2 => ("ContextCoder", "past", "[LContextCoder$State;", true)
  | 3 => ("ContextCoder", "kept", "I", false)
  | 4 => ("ContextCoder", "text", "LContextCoder$Row;", true)
  | 5 => ("ContextCoder", "candidates", "LContextCoder$Candidates;", true)
  | 6 => ("ContextCoder", "route", "LContextCoder$Route;", true)
  | 7 => ("ContextCoder", "encoder", "LContextCoder$Encoder;", true)
  | _ => ("ContextCoder", "decoder", "LContextCoder$Decoder;", true)
def tyX8 : Nat → FieldType := fun k => match k with
  | 0 => .object "ContextCoder$State"
  | 1 => .object "ContextCoder$State"
  | 2 => .array (.object "ContextCoder$State")
  | 3 => .int
  | 4 => .object "ContextCoder$Row"
  | 5 => .object "ContextCoder$Candidates"
  | 6 => .object "ContextCoder$Route"
  | 7 => .object "ContextCoder$Encoder"
  | _ => .object "ContextCoder$Decoder"
theorem nmX8 : ∀ a, a < 9 → ∀ b, b < 9 → a ≠ b → (TX8 a).2.1 ≠ (TX8 b).2.1 := by decide +kernel
theorem tyX8_ok : ∀ k, k < 9 → parseFieldDescriptor (TX8 k).2.2.1 = some (tyX8 k) := by decide +kernel
abbrev cX8_init : ByteArray := prog_1_method_1_code
def yX8_init : MethodName := ⟨RX8, "<init>", "(I)V"⟩
abbrev cX8_setOrder : ByteArray := prog_1_method_2_code
def yX8_setOrder : MethodName := ⟨RX8, "setOrder", "(I)I"⟩
abbrev cX8_setExclusion : ByteArray := prog_1_method_3_code
def yX8_setExclusion : MethodName := ⟨RX8, "setExclusion", "(Z)I"⟩
abbrev cX8_setStep : ByteArray := prog_1_method_4_code
def yX8_setStep : MethodName := ⟨RX8, "setStep", "(I)I"⟩
abbrev cX8_setLimit : ByteArray := prog_1_method_5_code
def yX8_setLimit : MethodName := ⟨RX8, "setLimit", "(I)I"⟩
abbrev cX8_forget : ByteArray := prog_1_method_6_code
def yX8_forget : MethodName := ⟨RX8, "forget", "()I"⟩
abbrev cX8_learn : ByteArray := prog_1_method_7_code
def yX8_learn : MethodName := ⟨RX8, "learn", "()I"⟩
abbrev cX8_contexts : ByteArray := prog_1_method_8_code
def yX8_contexts : MethodName := ⟨RX8, "contexts", "()I"⟩
abbrev cX8_count : ByteArray := prog_1_method_9_code
def yX8_count : MethodName := ⟨RX8, "count", "(II)I"⟩
abbrev cX8_weight : ByteArray := prog_1_method_10_code
def yX8_weight : MethodName := ⟨RX8, "weight", "(I)I"⟩
abbrev cX8_price : ByteArray := prog_1_method_11_code
def yX8_price : MethodName := ⟨RX8, "price", "(I)I"⟩
abbrev cX8_guess : ByteArray := prog_1_method_12_code
def yX8_guess : MethodName := ⟨RX8, "guess", "()I"⟩
abbrev cX8_type : ByteArray := prog_1_method_13_code
def yX8_type : MethodName := ⟨RX8, "type", "(I)I"⟩
abbrev cX8_remove : ByteArray := prog_1_method_14_code
def yX8_remove : MethodName := ⟨RX8, "remove", "(I)I"⟩
abbrev cX8_encode : ByteArray := prog_1_method_15_code
def yX8_encode : MethodName := ⟨RX8, "encode", "()I"⟩
abbrev cX8_bytes : ByteArray := prog_1_method_16_code
def yX8_bytes : MethodName := ⟨RX8, "bytes", "()I"⟩
abbrev cX8_codeByte : ByteArray := prog_1_method_17_code
def yX8_codeByte : MethodName := ⟨RX8, "codeByte", "(I)I"⟩
abbrev cX8_longestCarry : ByteArray := prog_1_method_18_code
def yX8_longestCarry : MethodName := ⟨RX8, "longestCarry", "()I"⟩
abbrev cX8_decode : ByteArray := prog_1_method_19_code
def yX8_decode : MethodName := ⟨RX8, "decode", "()I"⟩
abbrev cX8_decoded : ByteArray := prog_1_method_20_code
def yX8_decoded : MethodName := ⟨RX8, "decoded", "(I)I"⟩
abbrev cX8_flip : ByteArray := prog_1_method_21_code
def yX8_flip : MethodName := ⟨RX8, "flip", "(II)I"⟩
abbrev cX8_cut : ByteArray := prog_1_method_22_code
def yX8_cut : MethodName := ⟨RX8, "cut", "(I)I"⟩
abbrev cX8_append : ByteArray := prog_1_method_23_code
def yX8_append : MethodName := ⟨RX8, "append", "(I)I"⟩
abbrev cX8_coded : ByteArray := prog_1_method_24_code
def yX8_coded : MethodName := ⟨RX8, "coded", "()I"⟩
abbrev cX8_account : ByteArray := prog_1_method_25_code
def yX8_account : MethodName := ⟨RX8, "account", "(II)I"⟩
abbrev cX8_cost : ByteArray := prog_1_method_26_code
def yX8_cost : MethodName := ⟨RX8, "cost", "()I"⟩
abbrev cX8_lg : ByteArray := prog_1_method_27_code
def yX8_lg : MethodName := ⟨RX8, "lg", "(II)I"⟩
abbrev cX8_undo : ByteArray := prog_1_method_28_code
def yX8_undo : MethodName := ⟨RX8, "undo", "()I"⟩
abbrev cX8_fingerprint : ByteArray := prog_1_method_29_code
def yX8_fingerprint : MethodName := ⟨RX8, "fingerprint", "()J"⟩
abbrev cX8_remember : ByteArray := prog_1_method_30_code
def yX8_remember : MethodName := ⟨RX8, "remember", "()V"⟩
abbrev cX8_rollPast : ByteArray := prog_1_method_31_code
def yX8_rollPast : MethodName := ⟨RX8, "rollPast", "()V"⟩
abbrev cX8_lastContext : ByteArray := prog_1_method_32_code
def yX8_lastContext : MethodName := ⟨RX8, "lastContext", "(I)I"⟩
abbrev cX8_codeOnTrial : ByteArray := prog_1_method_33_code
def yX8_codeOnTrial : MethodName := ⟨RX8, "codeOnTrial", "(LContextCoder$Row;)V"⟩
abbrev cX8_codeSymbol : ByteArray := prog_1_method_34_code
def yX8_codeSymbol : MethodName := ⟨RX8, "codeSymbol", "(LContextCoder$Row;II)V"⟩
abbrev cX8_plan : ByteArray := prog_1_method_35_code
def yX8_plan : MethodName := ⟨RX8, "plan", "(LContextCoder$State;LContextCoder$Row;II)V"⟩
abbrev cX8_readOnTrial : ByteArray := prog_1_method_36_code
def yX8_readOnTrial : MethodName := ⟨RX8, "readOnTrial", "()I"⟩
abbrev cX8_readSymbol : ByteArray := prog_1_method_37_code
def yX8_readSymbol : MethodName := ⟨RX8, "readSymbol", "(LContextCoder$Row;I)I"⟩
abbrev cX8_contextKey : ByteArray := prog_1_method_38_code
def yX8_contextKey : MethodName := ⟨RX8, "contextKey", "(LContextCoder$Row;II)I"⟩
abbrev cX8_checkNumber : ByteArray := prog_1_method_39_code
def yX8_checkNumber : MethodName := ⟨RX8, "checkNumber", "(LContextCoder$Row;)I"⟩
abbrev cX8_intervalCost : ByteArray := prog_1_method_40_code
def yX8_intervalCost : MethodName := ⟨RX8, "intervalCost", "(II)I"⟩
abbrev cX8_logarithm : ByteArray := prog_1_method_41_code
def yX8_logarithm : MethodName := ⟨RX8, "logarithm", "(I)I"⟩
def RX9 : String := "ContextCoderModel"
def TX9 : u_T := fun k => match k with
  | 0 => ("ContextCoderModel", "v", "[I", true)
  | 1 => ("ContextCoderModel", "aside", "[I", true)
  | 2 => ("ContextCoderModel", "past", "[I", true)
  | 3 => ("ContextCoderModel", "pastMany", "I", false)
  | 4 => ("ContextCoderModel", "text", "[I", true)
  | 5 => ("ContextCoderModel", "typed", "I", false)
  | 6 => ("ContextCoderModel", "low", "J", false)
  | 7 => ("ContextCoderModel", "range", "J", false)
  | 8 => ("ContextCoderModel", "made", "[I", true)
  | 9 => ("ContextCoderModel", "madeMany", "I", false)
  | 10 => ("ContextCoderModel", "longest", "I", false)
  | 11 => ("ContextCoderModel", "isGone", "[Z", true)
  | 12 => ("ContextCoderModel", "cost", "I", false)
  | 13 => ("ContextCoderModel", "escapes", "I", false)
  | 14 => ("ContextCoderModel", "coded", "I", false)
  | 15 => ("ContextCoderModel", "isWriting", "Z", false)
  | 16 => ("ContextCoderModel", "told", "[I", true)
  | 17 => ("ContextCoderModel", "toldCost", "I", false)
  | 18 => ("ContextCoderModel", "more", "J", false)
  | 19 => ("ContextCoderModel", "taken", "I", false)
  | 20 => ("ContextCoderModel", "found", "[I", true)
  | _ => ("ContextCoderModel", "foundMany", "I", false)
def tyX9 : Nat → FieldType := fun k => match k with
  | 0 => .array .int
  | 1 => .array .int
  | 2 => .array .int
  | 3 => .int
  | 4 => .array .int
  | 5 => .int
  | 6 => .long
  | 7 => .long
  | 8 => .array .int
  | 9 => .int
  | 10 => .int
  | 11 => .array .boolean
  | 12 => .int
  | 13 => .int
  | 14 => .int
  | 15 => .boolean
  | 16 => .array .int
  | 17 => .int
  | 18 => .long
  | 19 => .int
  | 20 => .array .int
  | _ => .int
theorem nmX9 : ∀ a, a < 22 → ∀ b, b < 22 → a ≠ b → (TX9 a).2.1 ≠ (TX9 b).2.1 := by decide +kernel
theorem tyX9_ok : ∀ k, k < 22 → parseFieldDescriptor (TX9 k).2.2.1 = some (tyX9 k) := by decide +kernel
abbrev cX9_init : ByteArray := prog_11_method_1_code
def yX9_init : MethodName := ⟨RX9, "<init>", "(I)V"⟩
abbrev cX9_in : ByteArray := prog_11_method_2_code
def yX9_in : MethodName := ⟨RX9, "in", "(III)Z"⟩
abbrev cX9_keeps : ByteArray := prog_11_method_3_code
def yX9_keeps : MethodName := ⟨RX9, "keeps", "([I)V"⟩
abbrev cX9_copies : ByteArray := prog_11_method_4_code
def yX9_copies : MethodName := ⟨RX9, "copies", "([I[I)V"⟩
abbrev cX9_sets : ByteArray := prog_11_method_5_code
def yX9_sets : MethodName := ⟨RX9, "sets", "(II)I"⟩
abbrev cX9_keyOf : ByteArray := prog_11_method_6_code
def yX9_keyOf : MethodName := ⟨RX9, "keyOf", "([III)I"⟩
abbrev cX9_find : ByteArray := prog_11_method_7_code
def yX9_find : MethodName := ⟨RX9, "find", "([III)I"⟩
abbrev cX9_countAt : ByteArray := prog_11_method_8_code
def yX9_countAt : MethodName := ⟨RX9, "countAt", "(II)I"⟩
abbrev cX9_weightOf : ByteArray := prog_11_method_9_code
def yX9_weightOf : MethodName := ⟨RX9, "weightOf", "(I)I"⟩
abbrev cX9_counts : ByteArray := prog_11_method_10_code
def yX9_counts : MethodName := ⟨RX9, "counts", "(II)V"⟩
abbrev cX9_learns : ByteArray := prog_11_method_11_code
def yX9_learns : MethodName := ⟨RX9, "learns", "([III)V"⟩
abbrev cX9_starts : ByteArray := prog_11_method_12_code
def yX9_starts : MethodName := ⟨RX9, "starts", "()V"⟩
abbrev cX9_carries : ByteArray := prog_11_method_13_code
def yX9_carries : MethodName := ⟨RX9, "carries", "()V"⟩
abbrev cX9_writes : ByteArray := prog_11_method_14_code
def yX9_writes : MethodName := ⟨RX9, "writes", "(JJJ)V"⟩
abbrev cX9_finishes : ByteArray := prog_11_method_15_code
def yX9_finishes : MethodName := ⟨RX9, "finishes", "()V"⟩
abbrev cX9_log : ByteArray := prog_11_method_16_code
def yX9_log : MethodName := ⟨RX9, "log", "(I)I"⟩
abbrev cX9_interval : ByteArray := prog_11_method_17_code
def yX9_interval : MethodName := ⟨RX9, "interval", "(III)V"⟩
abbrev cX9_below : ByteArray := prog_11_method_18_code
def yX9_below : MethodName := ⟨RX9, "below", "(II)I"⟩
abbrev cX9_known : ByteArray := prog_11_method_19_code
def yX9_known : MethodName := ⟨RX9, "known", "(I)I"⟩
abbrev cX9_excludes : ByteArray := prog_11_method_20_code
def yX9_excludes : MethodName := ⟨RX9, "excludes", "(I)V"⟩
abbrev cX9_clears : ByteArray := prog_11_method_21_code
def yX9_clears : MethodName := ⟨RX9, "clears", "()V"⟩
abbrev cX9_codes : ByteArray := prog_11_method_22_code
def yX9_codes : MethodName := ⟨RX9, "codes", "([III)V"⟩
abbrev cX9_empties : ByteArray := prog_11_method_23_code
def yX9_empties : MethodName := ⟨RX9, "empties", "()V"⟩
abbrev cX9_setOrder : ByteArray := prog_11_method_24_code
def yX9_setOrder : MethodName := ⟨RX9, "setOrder", "(I)I"⟩
abbrev cX9_setExclusion : ByteArray := prog_11_method_25_code
def yX9_setExclusion : MethodName := ⟨RX9, "setExclusion", "(Z)I"⟩
abbrev cX9_setStep : ByteArray := prog_11_method_26_code
def yX9_setStep : MethodName := ⟨RX9, "setStep", "(I)I"⟩
abbrev cX9_setLimit : ByteArray := prog_11_method_27_code
def yX9_setLimit : MethodName := ⟨RX9, "setLimit", "(I)I"⟩
abbrev cX9_forget : ByteArray := prog_11_method_28_code
def yX9_forget : MethodName := ⟨RX9, "forget", "()I"⟩
abbrev cX9_symbolAt : ByteArray := prog_11_method_29_code
def yX9_symbolAt : MethodName := ⟨RX9, "symbolAt", "([III)I"⟩
abbrev cX9_learn : ByteArray := prog_11_method_30_code
def yX9_learn : MethodName := ⟨RX9, "learn", "()I"⟩
abbrev cX9_contexts : ByteArray := prog_11_method_31_code
def yX9_contexts : MethodName := ⟨RX9, "contexts", "()I"⟩
abbrev cX9_count : ByteArray := prog_11_method_32_code
def yX9_count : MethodName := ⟨RX9, "count", "(II)I"⟩
abbrev cX9_weight : ByteArray := prog_11_method_33_code
def yX9_weight : MethodName := ⟨RX9, "weight", "(I)I"⟩
abbrev cX9_priceOf : ByteArray := prog_11_method_34_code
def yX9_priceOf : MethodName := ⟨RX9, "priceOf", "(I)I"⟩
abbrev cX9_price : ByteArray := prog_11_method_35_code
def yX9_price : MethodName := ⟨RX9, "price", "(I)I"⟩
abbrev cX9_guess : ByteArray := prog_11_method_36_code
def yX9_guess : MethodName := ⟨RX9, "guess", "()I"⟩
abbrev cX9_type : ByteArray := prog_11_method_37_code
def yX9_type : MethodName := ⟨RX9, "type", "(I)I"⟩
abbrev cX9_remove : ByteArray := prog_11_method_38_code
def yX9_remove : MethodName := ⟨RX9, "remove", "(I)I"⟩
abbrev cX9_checkOf : ByteArray := prog_11_method_39_code
def yX9_checkOf : MethodName := ⟨RX9, "checkOf", "([II)I"⟩
abbrev cX9_codesAll : ByteArray := prog_11_method_40_code
def yX9_codesAll : MethodName := ⟨RX9, "codesAll", "([II)V"⟩
abbrev cX9_encode : ByteArray := prog_11_method_41_code
def yX9_encode : MethodName := ⟨RX9, "encode", "()I"⟩
abbrev cX9_bytes : ByteArray := prog_11_method_42_code
def yX9_bytes : MethodName := ⟨RX9, "bytes", "()I"⟩
abbrev cX9_codeByte : ByteArray := prog_11_method_43_code
def yX9_codeByte : MethodName := ⟨RX9, "codeByte", "(I)I"⟩
abbrev cX9_longestCarry : ByteArray := prog_11_method_44_code
def yX9_longestCarry : MethodName := ⟨RX9, "longestCarry", "()I"⟩
abbrev cX9_nextByte : ByteArray := prog_11_method_45_code
def yX9_nextByte : MethodName := ⟨RX9, "nextByte", "()I"⟩
abbrev cX9_target : ByteArray := prog_11_method_46_code
def yX9_target : MethodName := ⟨RX9, "target", "(I)I"⟩
abbrev cX9_reads : ByteArray := prog_11_method_47_code
def yX9_reads : MethodName := ⟨RX9, "reads", "(III)V"⟩
abbrev cX9_decodes : ByteArray := prog_11_method_48_code
def yX9_decodes : MethodName := ⟨RX9, "decodes", "([II)I"⟩
abbrev cX9_decodesAll : ByteArray := prog_11_method_49_code
def yX9_decodesAll : MethodName := ⟨RX9, "decodesAll", "()I"⟩
abbrev cX9_isCode : ByteArray := prog_11_method_50_code
def yX9_isCode : MethodName := ⟨RX9, "isCode", "()Z"⟩
abbrev cX9_decode : ByteArray := prog_11_method_51_code
def yX9_decode : MethodName := ⟨RX9, "decode", "()I"⟩
abbrev cX9_decoded : ByteArray := prog_11_method_52_code
def yX9_decoded : MethodName := ⟨RX9, "decoded", "(I)I"⟩
abbrev cX9_flip : ByteArray := prog_11_method_53_code
def yX9_flip : MethodName := ⟨RX9, "flip", "(II)I"⟩
abbrev cX9_cut : ByteArray := prog_11_method_54_code
def yX9_cut : MethodName := ⟨RX9, "cut", "(I)I"⟩
abbrev cX9_append : ByteArray := prog_11_method_55_code
def yX9_append : MethodName := ⟨RX9, "append", "(I)I"⟩
abbrev cX9_coded : ByteArray := prog_11_method_56_code
def yX9_coded : MethodName := ⟨RX9, "coded", "()I"⟩
abbrev cX9_account : ByteArray := prog_11_method_57_code
def yX9_account : MethodName := ⟨RX9, "account", "(II)I"⟩
abbrev cX9_cost : ByteArray := prog_11_method_58_code
def yX9_cost : MethodName := ⟨RX9, "cost", "()I"⟩
abbrev cX9_lg : ByteArray := prog_11_method_59_code
def yX9_lg : MethodName := ⟨RX9, "lg", "(II)I"⟩
abbrev cX9_undo : ByteArray := prog_11_method_60_code
def yX9_undo : MethodName := ⟨RX9, "undo", "()I"⟩
abbrev cX9_fingerprint : ByteArray := prog_11_method_61_code
def yX9_fingerprint : MethodName := ⟨RX9, "fingerprint", "()J"⟩
def RJ9 : String := "java/lang/Math"
def TJ9 : u_T := fun k => match k with
  | _ => ("", "", "", false)
def tyJ9 : Nat → FieldType := fun k => match k with
  | _ => .int
theorem nmJ9 : ∀ a, a < 0 → ∀ b, b < 0 → a ≠ b → (TJ9 a).2.1 ≠ (TJ9 b).2.1 := by decide +kernel
theorem tyJ9_ok : ∀ k, k < 0 → parseFieldDescriptor (TJ9 k).2.2.1 = some (tyJ9 k) := by decide +kernel
abbrev cJ9_max_7cf53 : ByteArray := prog_12_method_65_code
def yJ9_max_7cf53 : MethodName := ⟨RJ9, "max", "(II)I"⟩
abbrev cJ9_min_7cf53 : ByteArray := prog_12_method_69_code
def yJ9_min_7cf53 : MethodName := ⟨RJ9, "min", "(II)I"⟩
abbrev cJ9_min_f86c9 : ByteArray := prog_12_method_70_code
def yJ9_min_f86c9 : MethodName := ⟨RJ9, "min", "(JJ)J"⟩
def RJ10 : String := "java/lang/System"
def TJ10 : u_T := fun k => match k with
  | _ => ("", "", "", false)
def tyJ10 : Nat → FieldType := fun k => match k with
  | _ => .int
theorem nmJ10 : ∀ a, a < 0 → ∀ b, b < 0 → a ≠ b → (TJ10 a).2.1 ≠ (TJ10 b).2.1 := by decide +kernel
theorem tyJ10_ok : ∀ k, k < 0 → parseFieldDescriptor (TJ10 k).2.2.1 = some (tyJ10 k) := by decide +kernel
def RL : String := "ContextCoderLaw"
abbrev cL_cell : ByteArray := method_2_code
def yL_cell : MethodName := ⟨RL, "cell", "([II)I"⟩
abbrev cL_law : ByteArray := code
def yL_law : MethodName := ⟨RL, "law", "([I)Z"⟩
abbrev classes : List vw_C := [(RX0, TX0, 2), (RX1, TX1, 4), (RX2, TX2, 4), (RX3, TX3, 5), (RX4, TX4, 5), (RX5, TX5, 4), (RX6, TX6, 2), (RX7, TX7, 8), (RX8, TX8, 9), (RX9, TX9, 22)]
end
section
theorem dX0_init_0 : decode cX0_init 0 = .ok (.aload_n 0, 1) := by decide +kernel
theorem dX0_init_1 : decode cX0_init 1 = .ok (.invokespecial 3, 3) := by decide +kernel
theorem dX0_init_4 : decode cX0_init 4 = .ok (.aload_n 0, 1) := by decide +kernel
theorem dX0_init_5 : decode cX0_init 5 = .ok (.bipush 96, 2) := by decide +kernel
theorem dX0_init_7 : decode cX0_init 7 = .ok (.newarray .boolean, 2) := by decide +kernel
theorem dX0_init_9 : decode cX0_init 9 = .ok (.putfield 9, 3) := by decide +kernel
theorem dX0_init_12 : decode cX0_init 12 = .ok (.aload_n 0, 1) := by decide +kernel
theorem dX0_init_13 : decode cX0_init 13 = .ok (.iconst 1, 1) := by decide +kernel
theorem dX0_init_14 : decode cX0_init 14 = .ok (.putfield 15, 3) := by decide +kernel
theorem dX0_init_17 : decode cX0_init 17 = .ok (.return_, 1) := by decide +kernel
theorem dX0_restart_0 : decode cX0_restart 0 = .ok (.iconst 0, 1) := by decide +kernel
theorem dX0_restart_1 : decode cX0_restart 1 = .ok (.istore_n 1, 1) := by decide +kernel
theorem dX0_restart_2 : decode cX0_restart 2 = .ok (.iload_n 1, 1) := by decide +kernel
theorem dX0_restart_3 : decode cX0_restart 3 = .ok (.aload_n 0, 1) := by decide +kernel
theorem dX0_restart_4 : decode cX0_restart 4 = .ok (.getfield 9, 3) := by decide +kernel
theorem dX0_restart_7 : decode cX0_restart 7 = .ok (.arraylength, 1) := by decide +kernel
theorem dX0_restart_8 : decode cX0_restart 8 = .ok (.if_icmp .ge 23, 3) := by decide +kernel
theorem dX0_restart_11 : decode cX0_restart 11 = .ok (.aload_n 0, 1) := by decide +kernel
theorem dX0_restart_12 : decode cX0_restart 12 = .ok (.getfield 15, 3) := by decide +kernel
theorem dX0_restart_15 : decode cX0_restart 15 = .ok (.ifCond .ne 16, 3) := by decide +kernel
theorem dX0_restart_18 : decode cX0_restart 18 = .ok (.aload_n 0, 1) := by decide +kernel
theorem dX0_restart_19 : decode cX0_restart 19 = .ok (.getfield 9, 3) := by decide +kernel
theorem dX0_restart_22 : decode cX0_restart 22 = .ok (.iload_n 1, 1) := by decide +kernel
theorem dX0_restart_23 : decode cX0_restart 23 = .ok (.iconst 0, 1) := by decide +kernel
theorem dX0_restart_24 : decode cX0_restart 24 = .ok (.bastore, 1) := by decide +kernel
theorem dX0_restart_25 : decode cX0_restart 25 = .ok (.iinc 1 1, 3) := by decide +kernel
theorem dX0_restart_28 : decode cX0_restart 28 = .ok (.goto (-26), 3) := by decide +kernel
theorem dX0_restart_31 : decode cX0_restart 31 = .ok (.aload_n 0, 1) := by decide +kernel
theorem dX0_restart_32 : decode cX0_restart 32 = .ok (.iconst 1, 1) := by decide +kernel
theorem dX0_restart_33 : decode cX0_restart 33 = .ok (.putfield 15, 3) := by decide +kernel
theorem dX0_restart_36 : decode cX0_restart 36 = .ok (.return_, 1) := by decide +kernel
theorem dX0_remains_0 : decode cX0_remains 0 = .ok (.iload_n 1, 1) := by decide +kernel
theorem dX0_remains_1 : decode cX0_remains 1 = .ok (.ifCond .lt 25, 3) := by decide +kernel
theorem dX0_remains_4 : decode cX0_remains 4 = .ok (.iload_n 1, 1) := by decide +kernel
theorem dX0_remains_5 : decode cX0_remains 5 = .ok (.aload_n 0, 1) := by decide +kernel
theorem dX0_remains_6 : decode cX0_remains 6 = .ok (.getfield 9, 3) := by decide +kernel
theorem dX0_remains_9 : decode cX0_remains 9 = .ok (.arraylength, 1) := by decide +kernel
theorem dX0_remains_10 : decode cX0_remains 10 = .ok (.if_icmp .ge 16, 3) := by decide +kernel
theorem dX0_remains_13 : decode cX0_remains 13 = .ok (.aload_n 0, 1) := by decide +kernel
theorem dX0_remains_14 : decode cX0_remains 14 = .ok (.getfield 9, 3) := by decide +kernel
theorem dX0_remains_17 : decode cX0_remains 17 = .ok (.iload_n 1, 1) := by decide +kernel
theorem dX0_remains_18 : decode cX0_remains 18 = .ok (.baload, 1) := by decide +kernel
theorem dX0_remains_19 : decode cX0_remains 19 = .ok (.ifCond .ne 7, 3) := by decide +kernel
theorem dX0_remains_22 : decode cX0_remains 22 = .ok (.iconst 1, 1) := by decide +kernel
theorem dX0_remains_23 : decode cX0_remains 23 = .ok (.goto 4, 3) := by decide +kernel
theorem dX0_remains_26 : decode cX0_remains 26 = .ok (.iconst 0, 1) := by decide +kernel
theorem dX0_remains_27 : decode cX0_remains 27 = .ok (.ireturn, 1) := by decide +kernel
theorem dX0_holds_0 : decode cX0_holds 0 = .ok (.aload_n 0, 1) := by decide +kernel
theorem dX0_holds_1 : decode cX0_holds 1 = .ok (.iload_n 3, 1) := by decide +kernel
theorem dX0_holds_2 : decode cX0_holds 2 = .ok (.invokevirtual 19, 3) := by decide +kernel
theorem dX0_holds_5 : decode cX0_holds 5 = .ok (.ifCond .eq 16, 3) := by decide +kernel
theorem dX0_holds_8 : decode cX0_holds 8 = .ok (.aload_n 1, 1) := by decide +kernel
theorem dX0_holds_9 : decode cX0_holds 9 = .ok (.iload_n 2, 1) := by decide +kernel
theorem dX0_holds_10 : decode cX0_holds 10 = .ok (.iload_n 3, 1) := by decide +kernel
theorem dX0_holds_11 : decode cX0_holds 11 = .ok (.invokevirtual 23, 3) := by decide +kernel
theorem dX0_holds_14 : decode cX0_holds 14 = .ok (.ifCond .le 7, 3) := by decide +kernel
theorem dX0_holds_17 : decode cX0_holds 17 = .ok (.iconst 1, 1) := by decide +kernel
theorem dX0_holds_18 : decode cX0_holds 18 = .ok (.goto 4, 3) := by decide +kernel
theorem dX0_holds_21 : decode cX0_holds 21 = .ok (.iconst 0, 1) := by decide +kernel
theorem dX0_holds_22 : decode cX0_holds 22 = .ok (.ireturn, 1) := by decide +kernel
theorem dX0_sum_0 : decode cX0_sum 0 = .ok (.aload_n 0, 1) := by decide +kernel
theorem dX0_sum_1 : decode cX0_sum 1 = .ok (.getfield 15, 3) := by decide +kernel
theorem dX0_sum_4 : decode cX0_sum 4 = .ok (.ifCond .eq 11, 3) := by decide +kernel
theorem dX0_sum_7 : decode cX0_sum 7 = .ok (.aload_n 1, 1) := by decide +kernel
theorem dX0_sum_8 : decode cX0_sum 8 = .ok (.iload_n 2, 1) := by decide +kernel
theorem dX0_sum_9 : decode cX0_sum 9 = .ok (.invokevirtual 29, 3) := by decide +kernel
theorem dX0_sum_12 : decode cX0_sum 12 = .ok (.goto 11, 3) := by decide +kernel
theorem dX0_sum_15 : decode cX0_sum 15 = .ok (.aload_n 0, 1) := by decide +kernel
theorem dX0_sum_16 : decode cX0_sum 16 = .ok (.aload_n 1, 1) := by decide +kernel
theorem dX0_sum_17 : decode cX0_sum 17 = .ok (.iload_n 2, 1) := by decide +kernel
theorem dX0_sum_18 : decode cX0_sum 18 = .ok (.bipush 96, 2) := by decide +kernel
theorem dX0_sum_20 : decode cX0_sum 20 = .ok (.invokevirtual 33, 3) := by decide +kernel
theorem dX0_sum_23 : decode cX0_sum 23 = .ok (.ireturn, 1) := by decide +kernel
theorem dX0_sumBelow_0 : decode cX0_sumBelow 0 = .ok (.iconst 0, 1) := by decide +kernel
theorem dX0_sumBelow_1 : decode cX0_sumBelow 1 = .ok (.istore 4, 2) := by decide +kernel
theorem dX0_sumBelow_3 : decode cX0_sumBelow 3 = .ok (.iconst 0, 1) := by decide +kernel
theorem dX0_sumBelow_4 : decode cX0_sumBelow 4 = .ok (.istore 5, 2) := by decide +kernel
theorem dX0_sumBelow_6 : decode cX0_sumBelow 6 = .ok (.iload 5, 2) := by decide +kernel
theorem dX0_sumBelow_8 : decode cX0_sumBelow 8 = .ok (.iload_n 3, 1) := by decide +kernel
theorem dX0_sumBelow_9 : decode cX0_sumBelow 9 = .ok (.if_icmp .ge 30, 3) := by decide +kernel
theorem dX0_sumBelow_12 : decode cX0_sumBelow 12 = .ok (.aload_n 0, 1) := by decide +kernel
theorem dX0_sumBelow_13 : decode cX0_sumBelow 13 = .ok (.iload 5, 2) := by decide +kernel
theorem dX0_sumBelow_15 : decode cX0_sumBelow 15 = .ok (.invokevirtual 19, 3) := by decide +kernel
theorem dX0_sumBelow_18 : decode cX0_sumBelow 18 = .ok (.ifCond .eq 15, 3) := by decide +kernel
theorem dX0_sumBelow_21 : decode cX0_sumBelow 21 = .ok (.iload 4, 2) := by decide +kernel
theorem dX0_sumBelow_23 : decode cX0_sumBelow 23 = .ok (.aload_n 1, 1) := by decide +kernel
theorem dX0_sumBelow_24 : decode cX0_sumBelow 24 = .ok (.iload_n 2, 1) := by decide +kernel
theorem dX0_sumBelow_25 : decode cX0_sumBelow 25 = .ok (.iload 5, 2) := by decide +kernel
theorem dX0_sumBelow_27 : decode cX0_sumBelow 27 = .ok (.invokevirtual 23, 3) := by decide +kernel
theorem dX0_sumBelow_30 : decode cX0_sumBelow 30 = .ok (.iadd, 1) := by decide +kernel
theorem dX0_sumBelow_31 : decode cX0_sumBelow 31 = .ok (.istore 4, 2) := by decide +kernel
theorem dX0_sumBelow_33 : decode cX0_sumBelow 33 = .ok (.iinc 5 1, 3) := by decide +kernel
theorem dX0_sumBelow_36 : decode cX0_sumBelow 36 = .ok (.goto (-30), 3) := by decide +kernel
theorem dX0_sumBelow_39 : decode cX0_sumBelow 39 = .ok (.iload 4, 2) := by decide +kernel
theorem dX0_sumBelow_41 : decode cX0_sumBelow 41 = .ok (.ireturn, 1) := by decide +kernel
theorem dX0_symbolAt_0 : decode cX0_symbolAt 0 = .ok (.iconst 0, 1) := by decide +kernel
theorem dX0_symbolAt_1 : decode cX0_symbolAt 1 = .ok (.istore 4, 2) := by decide +kernel
theorem dX0_symbolAt_3 : decode cX0_symbolAt 3 = .ok (.iconst 0, 1) := by decide +kernel
theorem dX0_symbolAt_4 : decode cX0_symbolAt 4 = .ok (.istore 5, 2) := by decide +kernel
theorem dX0_symbolAt_6 : decode cX0_symbolAt 6 = .ok (.iload 5, 2) := by decide +kernel
theorem dX0_symbolAt_8 : decode cX0_symbolAt 8 = .ok (.bipush 96, 2) := by decide +kernel
theorem dX0_symbolAt_10 : decode cX0_symbolAt 10 = .ok (.if_icmp .ge 39, 3) := by decide +kernel
theorem dX0_symbolAt_13 : decode cX0_symbolAt 13 = .ok (.aload_n 0, 1) := by decide +kernel
theorem dX0_symbolAt_14 : decode cX0_symbolAt 14 = .ok (.iload 5, 2) := by decide +kernel
theorem dX0_symbolAt_16 : decode cX0_symbolAt 16 = .ok (.invokevirtual 19, 3) := by decide +kernel
theorem dX0_symbolAt_19 : decode cX0_symbolAt 19 = .ok (.ifCond .eq 15, 3) := by decide +kernel
theorem dX0_symbolAt_22 : decode cX0_symbolAt 22 = .ok (.iload 4, 2) := by decide +kernel
theorem dX0_symbolAt_24 : decode cX0_symbolAt 24 = .ok (.aload_n 1, 1) := by decide +kernel
theorem dX0_symbolAt_25 : decode cX0_symbolAt 25 = .ok (.iload_n 2, 1) := by decide +kernel
theorem dX0_symbolAt_26 : decode cX0_symbolAt 26 = .ok (.iload 5, 2) := by decide +kernel
theorem dX0_symbolAt_28 : decode cX0_symbolAt 28 = .ok (.invokevirtual 23, 3) := by decide +kernel
theorem dX0_symbolAt_31 : decode cX0_symbolAt 31 = .ok (.iadd, 1) := by decide +kernel
theorem dX0_symbolAt_32 : decode cX0_symbolAt 32 = .ok (.istore 4, 2) := by decide +kernel
theorem dX0_symbolAt_34 : decode cX0_symbolAt 34 = .ok (.iload 4, 2) := by decide +kernel
theorem dX0_symbolAt_36 : decode cX0_symbolAt 36 = .ok (.iload_n 3, 1) := by decide +kernel
theorem dX0_symbolAt_37 : decode cX0_symbolAt 37 = .ok (.if_icmp .le 6, 3) := by decide +kernel
theorem dX0_symbolAt_40 : decode cX0_symbolAt 40 = .ok (.iload 5, 2) := by decide +kernel
theorem dX0_symbolAt_42 : decode cX0_symbolAt 42 = .ok (.ireturn, 1) := by decide +kernel
theorem dX0_symbolAt_43 : decode cX0_symbolAt 43 = .ok (.iinc 5 1, 3) := by decide +kernel
theorem dX0_symbolAt_46 : decode cX0_symbolAt 46 = .ok (.goto (-40), 3) := by decide +kernel
theorem dX0_symbolAt_49 : decode cX0_symbolAt 49 = .ok (.iconst (-1), 1) := by decide +kernel
theorem dX0_symbolAt_50 : decode cX0_symbolAt 50 = .ok (.ireturn, 1) := by decide +kernel
theorem dX0_leave_0 : decode cX0_leave 0 = .ok (.aload_n 1, 1) := by decide +kernel
theorem dX0_leave_1 : decode cX0_leave 1 = .ok (.getfield 37, 3) := by decide +kernel
theorem dX0_leave_4 : decode cX0_leave 4 = .ok (.ifCond .ne 4, 3) := by decide +kernel
theorem dX0_leave_7 : decode cX0_leave 7 = .ok (.return_, 1) := by decide +kernel
theorem dX0_leave_8 : decode cX0_leave 8 = .ok (.iconst 0, 1) := by decide +kernel
theorem dX0_leave_9 : decode cX0_leave 9 = .ok (.istore_n 3, 1) := by decide +kernel
theorem dX0_leave_10 : decode cX0_leave 10 = .ok (.iload_n 3, 1) := by decide +kernel
theorem dX0_leave_11 : decode cX0_leave 11 = .ok (.aload_n 0, 1) := by decide +kernel
theorem dX0_leave_12 : decode cX0_leave 12 = .ok (.getfield 9, 3) := by decide +kernel
theorem dX0_leave_15 : decode cX0_leave 15 = .ok (.arraylength, 1) := by decide +kernel
theorem dX0_leave_16 : decode cX0_leave 16 = .ok (.if_icmp .ge 41, 3) := by decide +kernel
theorem dX0_leave_19 : decode cX0_leave 19 = .ok (.aload_n 0, 1) := by decide +kernel
theorem dX0_leave_20 : decode cX0_leave 20 = .ok (.getfield 9, 3) := by decide +kernel
theorem dX0_leave_23 : decode cX0_leave 23 = .ok (.iload_n 3, 1) := by decide +kernel
theorem dX0_leave_24 : decode cX0_leave 24 = .ok (.aload_n 0, 1) := by decide +kernel
theorem dX0_leave_25 : decode cX0_leave 25 = .ok (.getfield 9, 3) := by decide +kernel
theorem dX0_leave_28 : decode cX0_leave 28 = .ok (.iload_n 3, 1) := by decide +kernel
theorem dX0_leave_29 : decode cX0_leave 29 = .ok (.baload, 1) := by decide +kernel
theorem dX0_leave_30 : decode cX0_leave 30 = .ok (.ifCond .ne 15, 3) := by decide +kernel
theorem dX0_leave_33 : decode cX0_leave 33 = .ok (.aload_n 1, 1) := by decide +kernel
theorem dX0_leave_34 : decode cX0_leave 34 = .ok (.getfield 42, 3) := by decide +kernel
theorem dX0_leave_37 : decode cX0_leave 37 = .ok (.iload_n 2, 1) := by decide +kernel
theorem dX0_leave_38 : decode cX0_leave 38 = .ok (.iload_n 3, 1) := by decide +kernel
theorem dX0_leave_39 : decode cX0_leave 39 = .ok (.invokevirtual 23, 3) := by decide +kernel
theorem dX0_leave_42 : decode cX0_leave 42 = .ok (.ifCond .le 7, 3) := by decide +kernel
theorem dX0_leave_45 : decode cX0_leave 45 = .ok (.iconst 1, 1) := by decide +kernel
theorem dX0_leave_46 : decode cX0_leave 46 = .ok (.goto 4, 3) := by decide +kernel
theorem dX0_leave_49 : decode cX0_leave 49 = .ok (.iconst 0, 1) := by decide +kernel
theorem dX0_leave_50 : decode cX0_leave 50 = .ok (.bastore, 1) := by decide +kernel
theorem dX0_leave_51 : decode cX0_leave 51 = .ok (.iinc 3 1, 3) := by decide +kernel
theorem dX0_leave_54 : decode cX0_leave 54 = .ok (.goto (-44), 3) := by decide +kernel
theorem dX0_leave_57 : decode cX0_leave 57 = .ok (.aload_n 0, 1) := by decide +kernel
theorem dX0_leave_58 : decode cX0_leave 58 = .ok (.iconst 0, 1) := by decide +kernel
theorem dX0_leave_59 : decode cX0_leave 59 = .ok (.putfield 15, 3) := by decide +kernel
theorem dX0_leave_62 : decode cX0_leave 62 = .ok (.return_, 1) := by decide +kernel
theorem dX0_remainingBelow_0 : decode cX0_remainingBelow 0 = .ok (.iconst 0, 1) := by decide +kernel
theorem dX0_remainingBelow_1 : decode cX0_remainingBelow 1 = .ok (.istore_n 2, 1) := by decide +kernel
theorem dX0_remainingBelow_2 : decode cX0_remainingBelow 2 = .ok (.iconst 0, 1) := by decide +kernel
theorem dX0_remainingBelow_3 : decode cX0_remainingBelow 3 = .ok (.istore_n 3, 1) := by decide +kernel
theorem dX0_remainingBelow_4 : decode cX0_remainingBelow 4 = .ok (.iload_n 3, 1) := by decide +kernel
theorem dX0_remainingBelow_5 : decode cX0_remainingBelow 5 = .ok (.iload_n 1, 1) := by decide +kernel
theorem dX0_remainingBelow_6 : decode cX0_remainingBelow 6 = .ok (.if_icmp .ge 20, 3) := by decide +kernel
theorem dX0_remainingBelow_9 : decode cX0_remainingBelow 9 = .ok (.aload_n 0, 1) := by decide +kernel
theorem dX0_remainingBelow_10 : decode cX0_remainingBelow 10 = .ok (.iload_n 3, 1) := by decide +kernel
theorem dX0_remainingBelow_11 : decode cX0_remainingBelow 11 = .ok (.invokevirtual 19, 3) := by decide +kernel
theorem dX0_remainingBelow_14 : decode cX0_remainingBelow 14 = .ok (.ifCond .eq 6, 3) := by decide +kernel
theorem dX0_remainingBelow_17 : decode cX0_remainingBelow 17 = .ok (.iinc 2 1, 3) := by decide +kernel
theorem dX0_remainingBelow_20 : decode cX0_remainingBelow 20 = .ok (.iinc 3 1, 3) := by decide +kernel
theorem dX0_remainingBelow_23 : decode cX0_remainingBelow 23 = .ok (.goto (-19), 3) := by decide +kernel
theorem dX0_remainingBelow_26 : decode cX0_remainingBelow 26 = .ok (.iload_n 2, 1) := by decide +kernel
theorem dX0_remainingBelow_27 : decode cX0_remainingBelow 27 = .ok (.ireturn, 1) := by decide +kernel
theorem dX0_remainingAt_0 : decode cX0_remainingAt 0 = .ok (.iconst 0, 1) := by decide +kernel
theorem dX0_remainingAt_1 : decode cX0_remainingAt 1 = .ok (.istore_n 2, 1) := by decide +kernel
theorem dX0_remainingAt_2 : decode cX0_remainingAt 2 = .ok (.iconst 0, 1) := by decide +kernel
theorem dX0_remainingAt_3 : decode cX0_remainingAt 3 = .ok (.istore_n 3, 1) := by decide +kernel
theorem dX0_remainingAt_4 : decode cX0_remainingAt 4 = .ok (.iload_n 3, 1) := by decide +kernel
theorem dX0_remainingAt_5 : decode cX0_remainingAt 5 = .ok (.bipush 96, 2) := by decide +kernel
theorem dX0_remainingAt_7 : decode cX0_remainingAt 7 = .ok (.if_icmp .ge 27, 3) := by decide +kernel
theorem dX0_remainingAt_10 : decode cX0_remainingAt 10 = .ok (.aload_n 0, 1) := by decide +kernel
theorem dX0_remainingAt_11 : decode cX0_remainingAt 11 = .ok (.iload_n 3, 1) := by decide +kernel
theorem dX0_remainingAt_12 : decode cX0_remainingAt 12 = .ok (.invokevirtual 19, 3) := by decide +kernel
theorem dX0_remainingAt_15 : decode cX0_remainingAt 15 = .ok (.ifCond .eq 6, 3) := by decide +kernel
theorem dX0_remainingAt_18 : decode cX0_remainingAt 18 = .ok (.iinc 2 1, 3) := by decide +kernel
theorem dX0_remainingAt_21 : decode cX0_remainingAt 21 = .ok (.iload_n 2, 1) := by decide +kernel
theorem dX0_remainingAt_22 : decode cX0_remainingAt 22 = .ok (.iload_n 1, 1) := by decide +kernel
theorem dX0_remainingAt_23 : decode cX0_remainingAt 23 = .ok (.if_icmp .le 5, 3) := by decide +kernel
theorem dX0_remainingAt_26 : decode cX0_remainingAt 26 = .ok (.iload_n 3, 1) := by decide +kernel
theorem dX0_remainingAt_27 : decode cX0_remainingAt 27 = .ok (.ireturn, 1) := by decide +kernel
theorem dX0_remainingAt_28 : decode cX0_remainingAt 28 = .ok (.iinc 3 1, 3) := by decide +kernel
theorem dX0_remainingAt_31 : decode cX0_remainingAt 31 = .ok (.goto (-27), 3) := by decide +kernel
theorem dX0_remainingAt_34 : decode cX0_remainingAt 34 = .ok (.iconst (-1), 1) := by decide +kernel
theorem dX0_remainingAt_35 : decode cX0_remainingAt 35 = .ok (.ireturn, 1) := by decide +kernel
theorem dX1_init_0 : decode cX1_init 0 = .ok (.aload_n 0, 1) := by decide +kernel
theorem dX1_init_1 : decode cX1_init 1 = .ok (.invokespecial 3, 3) := by decide +kernel
theorem dX1_init_4 : decode cX1_init 4 = .ok (.return_, 1) := by decide +kernel
theorem dX1_begin_0 : decode cX1_begin 0 = .ok (.aload_n 0, 1) := by decide +kernel
theorem dX1_begin_1 : decode cX1_begin 1 = .ok (.aload_n 1, 1) := by decide +kernel
theorem dX1_begin_2 : decode cX1_begin 2 = .ok (.putfield 9, 3) := by decide +kernel
theorem dX1_begin_5 : decode cX1_begin 5 = .ok (.aload_n 0, 1) := by decide +kernel
theorem dX1_begin_6 : decode cX1_begin 6 = .ok (.iconst 0, 1) := by decide +kernel
theorem dX1_begin_7 : decode cX1_begin 7 = .ok (.putfield 15, 3) := by decide +kernel
theorem dX1_begin_10 : decode cX1_begin 10 = .ok (.aload_n 0, 1) := by decide +kernel
theorem dX1_begin_11 : decode cX1_begin 11 = .ok (.lconst 0, 1) := by decide +kernel
theorem dX1_begin_12 : decode cX1_begin 12 = .ok (.putfield 19, 3) := by decide +kernel
theorem dX1_begin_15 : decode cX1_begin 15 = .ok (.iconst 0, 1) := by decide +kernel
theorem dX1_begin_16 : decode cX1_begin 16 = .ok (.istore_n 2, 1) := by decide +kernel
theorem dX1_begin_17 : decode cX1_begin 17 = .ok (.iload_n 2, 1) := by decide +kernel
theorem dX1_begin_18 : decode cX1_begin 18 = .ok (.iconst 4, 1) := by decide +kernel
theorem dX1_begin_19 : decode cX1_begin 19 = .ok (.if_icmp .ge 13, 3) := by decide +kernel
theorem dX1_begin_22 : decode cX1_begin 22 = .ok (.aload_n 0, 1) := by decide +kernel
theorem dX1_begin_23 : decode cX1_begin 23 = .ok (.invokevirtual 23, 3) := by decide +kernel
theorem dX1_begin_26 : decode cX1_begin 26 = .ok (.iinc 2 1, 3) := by decide +kernel
theorem dX1_begin_29 : decode cX1_begin 29 = .ok (.goto (-12), 3) := by decide +kernel
theorem dX1_begin_32 : decode cX1_begin 32 = .ok (.aload_n 0, 1) := by decide +kernel
theorem dX1_begin_33 : decode cX1_begin 33 = .ok (.ldc2_w 26, 3) := by decide +kernel
theorem dX1_begin_36 : decode cX1_begin 36 = .ok (.putfield 28, 3) := by decide +kernel
theorem dX1_begin_39 : decode cX1_begin 39 = .ok (.return_, 1) := by decide +kernel
theorem dX1_shift_0 : decode cX1_shift 0 = .ok (.aload_n 0, 1) := by decide +kernel
theorem dX1_shift_1 : decode cX1_shift 1 = .ok (.getfield 9, 3) := by decide +kernel
theorem dX1_shift_4 : decode cX1_shift 4 = .ok (.ifnonnull 7, 3) := by decide +kernel
theorem dX1_shift_7 : decode cX1_shift 7 = .ok (.iconst 0, 1) := by decide +kernel
theorem dX1_shift_8 : decode cX1_shift 8 = .ok (.goto 14, 3) := by decide +kernel
theorem dX1_shift_11 : decode cX1_shift 11 = .ok (.aload_n 0, 1) := by decide +kernel
theorem dX1_shift_12 : decode cX1_shift 12 = .ok (.getfield 9, 3) := by decide +kernel
theorem dX1_shift_15 : decode cX1_shift 15 = .ok (.aload_n 0, 1) := by decide +kernel
theorem dX1_shift_16 : decode cX1_shift 16 = .ok (.getfield 15, 3) := by decide +kernel
theorem dX1_shift_19 : decode cX1_shift 19 = .ok (.invokevirtual 31, 3) := by decide +kernel
theorem dX1_shift_22 : decode cX1_shift 22 = .ok (.istore_n 1, 1) := by decide +kernel
theorem dX1_shift_23 : decode cX1_shift 23 = .ok (.aload_n 0, 1) := by decide +kernel
theorem dX1_shift_24 : decode cX1_shift 24 = .ok (.aload_n 0, 1) := by decide +kernel
theorem dX1_shift_25 : decode cX1_shift 25 = .ok (.getfield 19, 3) := by decide +kernel
theorem dX1_shift_28 : decode cX1_shift 28 = .ok (.ldc2_w 37, 3) := by decide +kernel
theorem dX1_shift_31 : decode cX1_shift 31 = .ok (.lmul, 1) := by decide +kernel
theorem dX1_shift_32 : decode cX1_shift 32 = .ok (.iload_n 1, 1) := by decide +kernel
theorem dX1_shift_33 : decode cX1_shift 33 = .ok (.i2l, 1) := by decide +kernel
theorem dX1_shift_34 : decode cX1_shift 34 = .ok (.ladd, 1) := by decide +kernel
theorem dX1_shift_35 : decode cX1_shift 35 = .ok (.ldc2_w 26, 3) := by decide +kernel
theorem dX1_shift_38 : decode cX1_shift 38 = .ok (.lrem, 1) := by decide +kernel
theorem dX1_shift_39 : decode cX1_shift 39 = .ok (.putfield 19, 3) := by decide +kernel
theorem dX1_shift_42 : decode cX1_shift 42 = .ok (.aload_n 0, 1) := by decide +kernel
theorem dX1_shift_43 : decode cX1_shift 43 = .ok (.dup, 1) := by decide +kernel
theorem dX1_shift_44 : decode cX1_shift 44 = .ok (.getfield 15, 3) := by decide +kernel
theorem dX1_shift_47 : decode cX1_shift 47 = .ok (.iconst 1, 1) := by decide +kernel
theorem dX1_shift_48 : decode cX1_shift 48 = .ok (.iadd, 1) := by decide +kernel
theorem dX1_shift_49 : decode cX1_shift 49 = .ok (.putfield 15, 3) := by decide +kernel
theorem dX1_shift_52 : decode cX1_shift 52 = .ok (.return_, 1) := by decide +kernel
theorem dX1_number_0 : decode cX1_number 0 = .ok (.iload_n 1, 1) := by decide +kernel
theorem dX1_number_1 : decode cX1_number 1 = .ok (.iconst 1, 1) := by decide +kernel
theorem dX1_number_2 : decode cX1_number 2 = .ok (.if_icmp .ge 7, 3) := by decide +kernel
theorem dX1_number_5 : decode cX1_number 5 = .ok (.lconst 0, 1) := by decide +kernel
theorem dX1_number_6 : decode cX1_number 6 = .ok (.goto 10, 3) := by decide +kernel
theorem dX1_number_9 : decode cX1_number 9 = .ok (.aload_n 0, 1) := by decide +kernel
theorem dX1_number_10 : decode cX1_number 10 = .ok (.getfield 28, 3) := by decide +kernel
theorem dX1_number_13 : decode cX1_number 13 = .ok (.iload_n 1, 1) := by decide +kernel
theorem dX1_number_14 : decode cX1_number 14 = .ok (.i2l, 1) := by decide +kernel
theorem dX1_number_15 : decode cX1_number 15 = .ok (.ldiv, 1) := by decide +kernel
theorem dX1_number_16 : decode cX1_number 16 = .ok (.lstore_n 2, 1) := by decide +kernel
theorem dX1_number_17 : decode cX1_number 17 = .ok (.lload_n 2, 1) := by decide +kernel
theorem dX1_number_18 : decode cX1_number 18 = .ok (.lconst 1, 1) := by decide +kernel
theorem dX1_number_19 : decode cX1_number 19 = .ok (.lcmp, 1) := by decide +kernel
theorem dX1_number_20 : decode cX1_number 20 = .ok (.ifCond .ge 7, 3) := by decide +kernel
theorem dX1_number_23 : decode cX1_number 23 = .ok (.iconst 0, 1) := by decide +kernel
theorem dX1_number_24 : decode cX1_number 24 = .ok (.goto 17, 3) := by decide +kernel
theorem dX1_number_27 : decode cX1_number 27 = .ok (.iload_n 1, 1) := by decide +kernel
theorem dX1_number_28 : decode cX1_number 28 = .ok (.iconst 1, 1) := by decide +kernel
theorem dX1_number_29 : decode cX1_number 29 = .ok (.isub, 1) := by decide +kernel
theorem dX1_number_30 : decode cX1_number 30 = .ok (.i2l, 1) := by decide +kernel
theorem dX1_number_31 : decode cX1_number 31 = .ok (.aload_n 0, 1) := by decide +kernel
theorem dX1_number_32 : decode cX1_number 32 = .ok (.getfield 19, 3) := by decide +kernel
theorem dX1_number_35 : decode cX1_number 35 = .ok (.lload_n 2, 1) := by decide +kernel
theorem dX1_number_36 : decode cX1_number 36 = .ok (.ldiv, 1) := by decide +kernel
theorem dX1_number_37 : decode cX1_number 37 = .ok (.invokestatic 39, 3) := by decide +kernel
theorem dX1_number_40 : decode cX1_number 40 = .ok (.l2i, 1) := by decide +kernel
theorem dX1_number_41 : decode cX1_number 41 = .ok (.ireturn, 1) := by decide +kernel
theorem dX1_interval_0 : decode cX1_interval 0 = .ok (.iload_n 3, 1) := by decide +kernel
theorem dX1_interval_1 : decode cX1_interval 1 = .ok (.iconst 1, 1) := by decide +kernel
theorem dX1_interval_2 : decode cX1_interval 2 = .ok (.if_icmp .ge 4, 3) := by decide +kernel
theorem dX1_interval_5 : decode cX1_interval 5 = .ok (.return_, 1) := by decide +kernel
theorem dX1_interval_6 : decode cX1_interval 6 = .ok (.aload_n 0, 1) := by decide +kernel
theorem dX1_interval_7 : decode cX1_interval 7 = .ok (.getfield 28, 3) := by decide +kernel
theorem dX1_interval_10 : decode cX1_interval 10 = .ok (.iload_n 3, 1) := by decide +kernel
theorem dX1_interval_11 : decode cX1_interval 11 = .ok (.i2l, 1) := by decide +kernel
theorem dX1_interval_12 : decode cX1_interval 12 = .ok (.ldiv, 1) := by decide +kernel
theorem dX1_interval_13 : decode cX1_interval 13 = .ok (.lstore 4, 2) := by decide +kernel
theorem dX1_interval_15 : decode cX1_interval 15 = .ok (.aload_n 0, 1) := by decide +kernel
theorem dX1_interval_16 : decode cX1_interval 16 = .ok (.dup, 1) := by decide +kernel
theorem dX1_interval_17 : decode cX1_interval 17 = .ok (.getfield 19, 3) := by decide +kernel
theorem dX1_interval_20 : decode cX1_interval 20 = .ok (.lload 4, 2) := by decide +kernel
theorem dX1_interval_22 : decode cX1_interval 22 = .ok (.iload_n 1, 1) := by decide +kernel
theorem dX1_interval_23 : decode cX1_interval 23 = .ok (.i2l, 1) := by decide +kernel
theorem dX1_interval_24 : decode cX1_interval 24 = .ok (.lmul, 1) := by decide +kernel
theorem dX1_interval_25 : decode cX1_interval 25 = .ok (.lsub, 1) := by decide +kernel
theorem dX1_interval_26 : decode cX1_interval 26 = .ok (.putfield 19, 3) := by decide +kernel
theorem dX1_interval_29 : decode cX1_interval 29 = .ok (.aload_n 0, 1) := by decide +kernel
theorem dX1_interval_30 : decode cX1_interval 30 = .ok (.iload_n 2, 1) := by decide +kernel
theorem dX1_interval_31 : decode cX1_interval 31 = .ok (.iload_n 3, 1) := by decide +kernel
theorem dX1_interval_32 : decode cX1_interval 32 = .ok (.if_icmp .ge 13, 3) := by decide +kernel
theorem dX1_interval_35 : decode cX1_interval 35 = .ok (.lload 4, 2) := by decide +kernel
theorem dX1_interval_37 : decode cX1_interval 37 = .ok (.iload_n 2, 1) := by decide +kernel
theorem dX1_interval_38 : decode cX1_interval 38 = .ok (.iload_n 1, 1) := by decide +kernel
theorem dX1_interval_39 : decode cX1_interval 39 = .ok (.isub, 1) := by decide +kernel
theorem dX1_interval_40 : decode cX1_interval 40 = .ok (.i2l, 1) := by decide +kernel
theorem dX1_interval_41 : decode cX1_interval 41 = .ok (.lmul, 1) := by decide +kernel
theorem dX1_interval_42 : decode cX1_interval 42 = .ok (.goto 13, 3) := by decide +kernel
theorem dX1_interval_45 : decode cX1_interval 45 = .ok (.aload_n 0, 1) := by decide +kernel
theorem dX1_interval_46 : decode cX1_interval 46 = .ok (.getfield 28, 3) := by decide +kernel
theorem dX1_interval_49 : decode cX1_interval 49 = .ok (.lload 4, 2) := by decide +kernel
theorem dX1_interval_51 : decode cX1_interval 51 = .ok (.iload_n 1, 1) := by decide +kernel
theorem dX1_interval_52 : decode cX1_interval 52 = .ok (.i2l, 1) := by decide +kernel
theorem dX1_interval_53 : decode cX1_interval 53 = .ok (.lmul, 1) := by decide +kernel
theorem dX1_interval_54 : decode cX1_interval 54 = .ok (.lsub, 1) := by decide +kernel
theorem dX1_interval_55 : decode cX1_interval 55 = .ok (.putfield 28, 3) := by decide +kernel
theorem dX1_interval_58 : decode cX1_interval 58 = .ok (.iconst 0, 1) := by decide +kernel
theorem dX1_interval_59 : decode cX1_interval 59 = .ok (.istore 6, 2) := by decide +kernel
theorem dX1_interval_61 : decode cX1_interval 61 = .ok (.iload 6, 2) := by decide +kernel
theorem dX1_interval_63 : decode cX1_interval 63 = .ok (.iconst 4, 1) := by decide +kernel
theorem dX1_interval_64 : decode cX1_interval 64 = .ok (.if_icmp .ge 36, 3) := by decide +kernel
theorem dX1_interval_67 : decode cX1_interval 67 = .ok (.aload_n 0, 1) := by decide +kernel
theorem dX1_interval_68 : decode cX1_interval 68 = .ok (.getfield 28, 3) := by decide +kernel
theorem dX1_interval_71 : decode cX1_interval 71 = .ok (.ldc2_w 45, 3) := by decide +kernel
theorem dX1_interval_74 : decode cX1_interval 74 = .ok (.lcmp, 1) := by decide +kernel
theorem dX1_interval_75 : decode cX1_interval 75 = .ok (.ifCond .gt 25, 3) := by decide +kernel
theorem dX1_interval_78 : decode cX1_interval 78 = .ok (.aload_n 0, 1) := by decide +kernel
theorem dX1_interval_79 : decode cX1_interval 79 = .ok (.invokevirtual 23, 3) := by decide +kernel
theorem dX1_interval_82 : decode cX1_interval 82 = .ok (.aload_n 0, 1) := by decide +kernel
theorem dX1_interval_83 : decode cX1_interval 83 = .ok (.aload_n 0, 1) := by decide +kernel
theorem dX1_interval_84 : decode cX1_interval 84 = .ok (.getfield 28, 3) := by decide +kernel
theorem dX1_interval_87 : decode cX1_interval 87 = .ok (.ldc2_w 37, 3) := by decide +kernel
theorem dX1_interval_90 : decode cX1_interval 90 = .ok (.lmul, 1) := by decide +kernel
theorem dX1_interval_91 : decode cX1_interval 91 = .ok (.putfield 28, 3) := by decide +kernel
theorem dX1_interval_94 : decode cX1_interval 94 = .ok (.iinc 6 1, 3) := by decide +kernel
theorem dX1_interval_97 : decode cX1_interval 97 = .ok (.goto (-36), 3) := by decide +kernel
theorem dX1_interval_100 : decode cX1_interval 100 = .ok (.return_, 1) := by decide +kernel
theorem dX2_init_0 : decode cX2_init 0 = .ok (.aload_n 0, 1) := by decide +kernel
theorem dX2_init_1 : decode cX2_init 1 = .ok (.invokespecial 3, 3) := by decide +kernel
theorem dX2_init_4 : decode cX2_init 4 = .ok (.aload_n 0, 1) := by decide +kernel
theorem dX2_init_5 : decode cX2_init 5 = .ok (.new 9, 3) := by decide +kernel
theorem dX2_init_8 : decode cX2_init 8 = .ok (.dup, 1) := by decide +kernel
theorem dX2_init_9 : decode cX2_init 9 = .ok (.sipush 4028, 3) := by decide +kernel
theorem dX2_init_12 : decode cX2_init 12 = .ok (.invokespecial 11, 3) := by decide +kernel
theorem dX2_init_15 : decode cX2_init 15 = .ok (.putfield 14, 3) := by decide +kernel
theorem dX2_init_18 : decode cX2_init 18 = .ok (.return_, 1) := by decide +kernel
theorem dX2_begin_0 : decode cX2_begin 0 = .ok (.aload_n 0, 1) := by decide +kernel
theorem dX2_begin_1 : decode cX2_begin 1 = .ok (.lconst 0, 1) := by decide +kernel
theorem dX2_begin_2 : decode cX2_begin 2 = .ok (.putfield 20, 3) := by decide +kernel
theorem dX2_begin_5 : decode cX2_begin 5 = .ok (.aload_n 0, 1) := by decide +kernel
theorem dX2_begin_6 : decode cX2_begin 6 = .ok (.ldc2_w 24, 3) := by decide +kernel
theorem dX2_begin_9 : decode cX2_begin 9 = .ok (.putfield 26, 3) := by decide +kernel
theorem dX2_begin_12 : decode cX2_begin 12 = .ok (.aload_n 0, 1) := by decide +kernel
theorem dX2_begin_13 : decode cX2_begin 13 = .ok (.getfield 14, 3) := by decide +kernel
theorem dX2_begin_16 : decode cX2_begin 16 = .ok (.invokevirtual 29, 3) := by decide +kernel
theorem dX2_begin_19 : decode cX2_begin 19 = .ok (.aload_n 0, 1) := by decide +kernel
theorem dX2_begin_20 : decode cX2_begin 20 = .ok (.iconst 0, 1) := by decide +kernel
theorem dX2_begin_21 : decode cX2_begin 21 = .ok (.putfield 32, 3) := by decide +kernel
theorem dX2_begin_24 : decode cX2_begin 24 = .ok (.return_, 1) := by decide +kernel
theorem dX2_interval_0 : decode cX2_interval 0 = .ok (.iload_n 3, 1) := by decide +kernel
theorem dX2_interval_1 : decode cX2_interval 1 = .ok (.iconst 1, 1) := by decide +kernel
theorem dX2_interval_2 : decode cX2_interval 2 = .ok (.if_icmp .ge 4, 3) := by decide +kernel
theorem dX2_interval_5 : decode cX2_interval 5 = .ok (.return_, 1) := by decide +kernel
theorem dX2_interval_6 : decode cX2_interval 6 = .ok (.aload_n 0, 1) := by decide +kernel
theorem dX2_interval_7 : decode cX2_interval 7 = .ok (.getfield 26, 3) := by decide +kernel
theorem dX2_interval_10 : decode cX2_interval 10 = .ok (.iload_n 3, 1) := by decide +kernel
theorem dX2_interval_11 : decode cX2_interval 11 = .ok (.i2l, 1) := by decide +kernel
theorem dX2_interval_12 : decode cX2_interval 12 = .ok (.ldiv, 1) := by decide +kernel
theorem dX2_interval_13 : decode cX2_interval 13 = .ok (.lstore 4, 2) := by decide +kernel
theorem dX2_interval_15 : decode cX2_interval 15 = .ok (.aload_n 0, 1) := by decide +kernel
theorem dX2_interval_16 : decode cX2_interval 16 = .ok (.dup, 1) := by decide +kernel
theorem dX2_interval_17 : decode cX2_interval 17 = .ok (.getfield 20, 3) := by decide +kernel
theorem dX2_interval_20 : decode cX2_interval 20 = .ok (.lload 4, 2) := by decide +kernel
theorem dX2_interval_22 : decode cX2_interval 22 = .ok (.iload_n 1, 1) := by decide +kernel
theorem dX2_interval_23 : decode cX2_interval 23 = .ok (.i2l, 1) := by decide +kernel
theorem dX2_interval_24 : decode cX2_interval 24 = .ok (.lmul, 1) := by decide +kernel
theorem dX2_interval_25 : decode cX2_interval 25 = .ok (.ladd, 1) := by decide +kernel
theorem dX2_interval_26 : decode cX2_interval 26 = .ok (.putfield 20, 3) := by decide +kernel
theorem dX2_interval_29 : decode cX2_interval 29 = .ok (.aload_n 0, 1) := by decide +kernel
theorem dX2_interval_30 : decode cX2_interval 30 = .ok (.iload_n 2, 1) := by decide +kernel
theorem dX2_interval_31 : decode cX2_interval 31 = .ok (.iload_n 3, 1) := by decide +kernel
theorem dX2_interval_32 : decode cX2_interval 32 = .ok (.if_icmp .ge 13, 3) := by decide +kernel
theorem dX2_interval_35 : decode cX2_interval 35 = .ok (.lload 4, 2) := by decide +kernel
theorem dX2_interval_37 : decode cX2_interval 37 = .ok (.iload_n 2, 1) := by decide +kernel
theorem dX2_interval_38 : decode cX2_interval 38 = .ok (.iload_n 1, 1) := by decide +kernel
theorem dX2_interval_39 : decode cX2_interval 39 = .ok (.isub, 1) := by decide +kernel
theorem dX2_interval_40 : decode cX2_interval 40 = .ok (.i2l, 1) := by decide +kernel
theorem dX2_interval_41 : decode cX2_interval 41 = .ok (.lmul, 1) := by decide +kernel
theorem dX2_interval_42 : decode cX2_interval 42 = .ok (.goto 13, 3) := by decide +kernel
theorem dX2_interval_45 : decode cX2_interval 45 = .ok (.aload_n 0, 1) := by decide +kernel
theorem dX2_interval_46 : decode cX2_interval 46 = .ok (.getfield 26, 3) := by decide +kernel
theorem dX2_interval_49 : decode cX2_interval 49 = .ok (.lload 4, 2) := by decide +kernel
theorem dX2_interval_51 : decode cX2_interval 51 = .ok (.iload_n 1, 1) := by decide +kernel
theorem dX2_interval_52 : decode cX2_interval 52 = .ok (.i2l, 1) := by decide +kernel
theorem dX2_interval_53 : decode cX2_interval 53 = .ok (.lmul, 1) := by decide +kernel
theorem dX2_interval_54 : decode cX2_interval 54 = .ok (.lsub, 1) := by decide +kernel
theorem dX2_interval_55 : decode cX2_interval 55 = .ok (.putfield 26, 3) := by decide +kernel
theorem dX2_interval_58 : decode cX2_interval 58 = .ok (.aload_n 0, 1) := by decide +kernel
theorem dX2_interval_59 : decode cX2_interval 59 = .ok (.getfield 20, 3) := by decide +kernel
theorem dX2_interval_62 : decode cX2_interval 62 = .ok (.ldc2_w 24, 3) := by decide +kernel
theorem dX2_interval_65 : decode cX2_interval 65 = .ok (.lcmp, 1) := by decide +kernel
theorem dX2_interval_66 : decode cX2_interval 66 = .ok (.ifCond .lt 19, 3) := by decide +kernel
theorem dX2_interval_69 : decode cX2_interval 69 = .ok (.aload_n 0, 1) := by decide +kernel
theorem dX2_interval_70 : decode cX2_interval 70 = .ok (.dup, 1) := by decide +kernel
theorem dX2_interval_71 : decode cX2_interval 71 = .ok (.getfield 20, 3) := by decide +kernel
theorem dX2_interval_74 : decode cX2_interval 74 = .ok (.ldc2_w 24, 3) := by decide +kernel
theorem dX2_interval_77 : decode cX2_interval 77 = .ok (.lsub, 1) := by decide +kernel
theorem dX2_interval_78 : decode cX2_interval 78 = .ok (.putfield 20, 3) := by decide +kernel
theorem dX2_interval_81 : decode cX2_interval 81 = .ok (.aload_n 0, 1) := by decide +kernel
theorem dX2_interval_82 : decode cX2_interval 82 = .ok (.invokevirtual 36, 3) := by decide +kernel
theorem dX2_interval_85 : decode cX2_interval 85 = .ok (.iconst 0, 1) := by decide +kernel
theorem dX2_interval_86 : decode cX2_interval 86 = .ok (.istore 6, 2) := by decide +kernel
theorem dX2_interval_88 : decode cX2_interval 88 = .ok (.iload 6, 2) := by decide +kernel
theorem dX2_interval_90 : decode cX2_interval 90 = .ok (.iconst 4, 1) := by decide +kernel
theorem dX2_interval_91 : decode cX2_interval 91 = .ok (.if_icmp .ge 64, 3) := by decide +kernel
theorem dX2_interval_94 : decode cX2_interval 94 = .ok (.aload_n 0, 1) := by decide +kernel
theorem dX2_interval_95 : decode cX2_interval 95 = .ok (.getfield 26, 3) := by decide +kernel
theorem dX2_interval_98 : decode cX2_interval 98 = .ok (.ldc2_w 39, 3) := by decide +kernel
theorem dX2_interval_101 : decode cX2_interval 101 = .ok (.lcmp, 1) := by decide +kernel
theorem dX2_interval_102 : decode cX2_interval 102 = .ok (.ifCond .gt 53, 3) := by decide +kernel
theorem dX2_interval_105 : decode cX2_interval 105 = .ok (.aload_n 0, 1) := by decide +kernel
theorem dX2_interval_106 : decode cX2_interval 106 = .ok (.getfield 14, 3) := by decide +kernel
theorem dX2_interval_109 : decode cX2_interval 109 = .ok (.aload_n 0, 1) := by decide +kernel
theorem dX2_interval_110 : decode cX2_interval 110 = .ok (.getfield 20, 3) := by decide +kernel
theorem dX2_interval_113 : decode cX2_interval 113 = .ok (.ldc2_w 39, 3) := by decide +kernel
theorem dX2_interval_116 : decode cX2_interval 116 = .ok (.ldiv, 1) := by decide +kernel
theorem dX2_interval_117 : decode cX2_interval 117 = .ok (.l2i, 1) := by decide +kernel
theorem dX2_interval_118 : decode cX2_interval 118 = .ok (.invokevirtual 41, 3) := by decide +kernel
theorem dX2_interval_121 : decode cX2_interval 121 = .ok (.aload_n 0, 1) := by decide +kernel
theorem dX2_interval_122 : decode cX2_interval 122 = .ok (.aload_n 0, 1) := by decide +kernel
theorem dX2_interval_123 : decode cX2_interval 123 = .ok (.getfield 20, 3) := by decide +kernel
theorem dX2_interval_126 : decode cX2_interval 126 = .ok (.ldc2_w 39, 3) := by decide +kernel
theorem dX2_interval_129 : decode cX2_interval 129 = .ok (.lrem, 1) := by decide +kernel
theorem dX2_interval_130 : decode cX2_interval 130 = .ok (.ldc2_w 44, 3) := by decide +kernel
theorem dX2_interval_133 : decode cX2_interval 133 = .ok (.lmul, 1) := by decide +kernel
theorem dX2_interval_134 : decode cX2_interval 134 = .ok (.putfield 20, 3) := by decide +kernel
theorem dX2_interval_137 : decode cX2_interval 137 = .ok (.aload_n 0, 1) := by decide +kernel
theorem dX2_interval_138 : decode cX2_interval 138 = .ok (.aload_n 0, 1) := by decide +kernel
theorem dX2_interval_139 : decode cX2_interval 139 = .ok (.getfield 26, 3) := by decide +kernel
theorem dX2_interval_142 : decode cX2_interval 142 = .ok (.ldc2_w 44, 3) := by decide +kernel
theorem dX2_interval_145 : decode cX2_interval 145 = .ok (.lmul, 1) := by decide +kernel
theorem dX2_interval_146 : decode cX2_interval 146 = .ok (.putfield 26, 3) := by decide +kernel
theorem dX2_interval_149 : decode cX2_interval 149 = .ok (.iinc 6 1, 3) := by decide +kernel
theorem dX2_interval_152 : decode cX2_interval 152 = .ok (.goto (-64), 3) := by decide +kernel
theorem dX2_interval_155 : decode cX2_interval 155 = .ok (.return_, 1) := by decide +kernel
theorem dX2_carry_0 : decode cX2_carry 0 = .ok (.iconst 0, 1) := by decide +kernel
theorem dX2_carry_1 : decode cX2_carry 1 = .ok (.istore_n 1, 1) := by decide +kernel
theorem dX2_carry_2 : decode cX2_carry 2 = .ok (.iconst 1, 1) := by decide +kernel
theorem dX2_carry_3 : decode cX2_carry 3 = .ok (.istore_n 2, 1) := by decide +kernel
theorem dX2_carry_4 : decode cX2_carry 4 = .ok (.aload_n 0, 1) := by decide +kernel
theorem dX2_carry_5 : decode cX2_carry 5 = .ok (.getfield 14, 3) := by decide +kernel
theorem dX2_carry_8 : decode cX2_carry 8 = .ok (.getfield 46, 3) := by decide +kernel
theorem dX2_carry_11 : decode cX2_carry 11 = .ok (.iconst 1, 1) := by decide +kernel
theorem dX2_carry_12 : decode cX2_carry 12 = .ok (.isub, 1) := by decide +kernel
theorem dX2_carry_13 : decode cX2_carry 13 = .ok (.istore_n 3, 1) := by decide +kernel
theorem dX2_carry_14 : decode cX2_carry 14 = .ok (.iload_n 3, 1) := by decide +kernel
theorem dX2_carry_15 : decode cX2_carry 15 = .ok (.ifCond .lt 62, 3) := by decide +kernel
theorem dX2_carry_18 : decode cX2_carry 18 = .ok (.iload_n 2, 1) := by decide +kernel
theorem dX2_carry_19 : decode cX2_carry 19 = .ok (.ifCond .eq 58, 3) := by decide +kernel
theorem dX2_carry_22 : decode cX2_carry 22 = .ok (.aload_n 0, 1) := by decide +kernel
theorem dX2_carry_23 : decode cX2_carry 23 = .ok (.getfield 14, 3) := by decide +kernel
theorem dX2_carry_26 : decode cX2_carry 26 = .ok (.iload_n 3, 1) := by decide +kernel
theorem dX2_carry_27 : decode cX2_carry 27 = .ok (.invokevirtual 49, 3) := by decide +kernel
theorem dX2_carry_30 : decode cX2_carry 30 = .ok (.sipush 255, 3) := by decide +kernel
theorem dX2_carry_33 : decode cX2_carry 33 = .ok (.if_icmp .ne 7, 3) := by decide +kernel
theorem dX2_carry_36 : decode cX2_carry 36 = .ok (.iconst 1, 1) := by decide +kernel
theorem dX2_carry_37 : decode cX2_carry 37 = .ok (.goto 4, 3) := by decide +kernel
theorem dX2_carry_40 : decode cX2_carry 40 = .ok (.iconst 0, 1) := by decide +kernel
theorem dX2_carry_41 : decode cX2_carry 41 = .ok (.istore_n 2, 1) := by decide +kernel
theorem dX2_carry_42 : decode cX2_carry 42 = .ok (.aload_n 0, 1) := by decide +kernel
theorem dX2_carry_43 : decode cX2_carry 43 = .ok (.getfield 14, 3) := by decide +kernel
theorem dX2_carry_46 : decode cX2_carry 46 = .ok (.iload_n 3, 1) := by decide +kernel
theorem dX2_carry_47 : decode cX2_carry 47 = .ok (.iload_n 2, 1) := by decide +kernel
theorem dX2_carry_48 : decode cX2_carry 48 = .ok (.ifCond .eq 7, 3) := by decide +kernel
theorem dX2_carry_51 : decode cX2_carry 51 = .ok (.iconst 0, 1) := by decide +kernel
theorem dX2_carry_52 : decode cX2_carry 52 = .ok (.goto 13, 3) := by decide +kernel
theorem dX2_carry_55 : decode cX2_carry 55 = .ok (.aload_n 0, 1) := by decide +kernel
theorem dX2_carry_56 : decode cX2_carry 56 = .ok (.getfield 14, 3) := by decide +kernel
theorem dX2_carry_59 : decode cX2_carry 59 = .ok (.iload_n 3, 1) := by decide +kernel
theorem dX2_carry_60 : decode cX2_carry 60 = .ok (.invokevirtual 49, 3) := by decide +kernel
theorem dX2_carry_63 : decode cX2_carry 63 = .ok (.iconst 1, 1) := by decide +kernel
theorem dX2_carry_64 : decode cX2_carry 64 = .ok (.iadd, 1) := by decide +kernel
theorem dX2_carry_65 : decode cX2_carry 65 = .ok (.invokevirtual 53, 3) := by decide +kernel
theorem dX2_carry_68 : decode cX2_carry 68 = .ok (.iinc 1 1, 3) := by decide +kernel
theorem dX2_carry_71 : decode cX2_carry 71 = .ok (.iinc 3 (-1), 3) := by decide +kernel
theorem dX2_carry_74 : decode cX2_carry 74 = .ok (.goto (-60), 3) := by decide +kernel
theorem dX2_carry_77 : decode cX2_carry 77 = .ok (.aload_n 0, 1) := by decide +kernel
theorem dX2_carry_78 : decode cX2_carry 78 = .ok (.aload_n 0, 1) := by decide +kernel
theorem dX2_carry_79 : decode cX2_carry 79 = .ok (.getfield 32, 3) := by decide +kernel
theorem dX2_carry_82 : decode cX2_carry 82 = .ok (.iload_n 1, 1) := by decide +kernel
theorem dX2_carry_83 : decode cX2_carry 83 = .ok (.invokestatic 57, 3) := by decide +kernel
theorem dX2_carry_86 : decode cX2_carry 86 = .ok (.putfield 32, 3) := by decide +kernel
theorem dX2_carry_89 : decode cX2_carry 89 = .ok (.return_, 1) := by decide +kernel
theorem dX2_finish_0 : decode cX2_finish 0 = .ok (.iconst 4, 1) := by decide +kernel
theorem dX2_finish_1 : decode cX2_finish 1 = .ok (.istore_n 1, 1) := by decide +kernel
theorem dX2_finish_2 : decode cX2_finish 2 = .ok (.iload_n 1, 1) := by decide +kernel
theorem dX2_finish_3 : decode cX2_finish 3 = .ok (.ifCond .le 27, 3) := by decide +kernel
theorem dX2_finish_6 : decode cX2_finish 6 = .ok (.aload_n 0, 1) := by decide +kernel
theorem dX2_finish_7 : decode cX2_finish 7 = .ok (.iload_n 1, 1) := by decide +kernel
theorem dX2_finish_8 : decode cX2_finish 8 = .ok (.invokevirtual 63, 3) := by decide +kernel
theorem dX2_finish_11 : decode cX2_finish 11 = .ok (.aload_n 0, 1) := by decide +kernel
theorem dX2_finish_12 : decode cX2_finish 12 = .ok (.getfield 20, 3) := by decide +kernel
theorem dX2_finish_15 : decode cX2_finish 15 = .ok (.aload_n 0, 1) := by decide +kernel
theorem dX2_finish_16 : decode cX2_finish 16 = .ok (.getfield 26, 3) := by decide +kernel
theorem dX2_finish_19 : decode cX2_finish 19 = .ok (.ladd, 1) := by decide +kernel
theorem dX2_finish_20 : decode cX2_finish 20 = .ok (.lcmp, 1) := by decide +kernel
theorem dX2_finish_21 : decode cX2_finish 21 = .ok (.ifCond .lt 9, 3) := by decide +kernel
theorem dX2_finish_24 : decode cX2_finish 24 = .ok (.iinc 1 (-1), 3) := by decide +kernel
theorem dX2_finish_27 : decode cX2_finish 27 = .ok (.goto (-25), 3) := by decide +kernel
theorem dX2_finish_30 : decode cX2_finish 30 = .ok (.aload_n 0, 1) := by decide +kernel
theorem dX2_finish_31 : decode cX2_finish 31 = .ok (.iload_n 1, 1) := by decide +kernel
theorem dX2_finish_32 : decode cX2_finish 32 = .ok (.invokevirtual 63, 3) := by decide +kernel
theorem dX2_finish_35 : decode cX2_finish 35 = .ok (.lstore_n 2, 1) := by decide +kernel
theorem dX2_finish_36 : decode cX2_finish 36 = .ok (.lload_n 2, 1) := by decide +kernel
theorem dX2_finish_37 : decode cX2_finish 37 = .ok (.ldc2_w 24, 3) := by decide +kernel
theorem dX2_finish_40 : decode cX2_finish 40 = .ok (.lcmp, 1) := by decide +kernel
theorem dX2_finish_41 : decode cX2_finish 41 = .ok (.ifCond .lt 9, 3) := by decide +kernel
theorem dX2_finish_44 : decode cX2_finish 44 = .ok (.aload_n 0, 1) := by decide +kernel
theorem dX2_finish_45 : decode cX2_finish 45 = .ok (.invokevirtual 36, 3) := by decide +kernel
theorem dX2_finish_48 : decode cX2_finish 48 = .ok (.lconst 0, 1) := by decide +kernel
theorem dX2_finish_49 : decode cX2_finish 49 = .ok (.lstore_n 2, 1) := by decide +kernel
theorem dX2_finish_50 : decode cX2_finish 50 = .ok (.iconst 0, 1) := by decide +kernel
theorem dX2_finish_51 : decode cX2_finish 51 = .ok (.istore 4, 2) := by decide +kernel
theorem dX2_finish_53 : decode cX2_finish 53 = .ok (.iload 4, 2) := by decide +kernel
theorem dX2_finish_55 : decode cX2_finish 55 = .ok (.iconst 4, 1) := by decide +kernel
theorem dX2_finish_56 : decode cX2_finish 56 = .ok (.iload_n 1, 1) := by decide +kernel
theorem dX2_finish_57 : decode cX2_finish 57 = .ok (.isub, 1) := by decide +kernel
theorem dX2_finish_58 : decode cX2_finish 58 = .ok (.if_icmp .ge 31, 3) := by decide +kernel
theorem dX2_finish_61 : decode cX2_finish 61 = .ok (.aload_n 0, 1) := by decide +kernel
theorem dX2_finish_62 : decode cX2_finish 62 = .ok (.getfield 14, 3) := by decide +kernel
theorem dX2_finish_65 : decode cX2_finish 65 = .ok (.lload_n 2, 1) := by decide +kernel
theorem dX2_finish_66 : decode cX2_finish 66 = .ok (.bipush 24, 2) := by decide +kernel
theorem dX2_finish_68 : decode cX2_finish 68 = .ok (.bipush 8, 2) := by decide +kernel
theorem dX2_finish_70 : decode cX2_finish 70 = .ok (.iload 4, 2) := by decide +kernel
theorem dX2_finish_72 : decode cX2_finish 72 = .ok (.imul, 1) := by decide +kernel
theorem dX2_finish_73 : decode cX2_finish 73 = .ok (.isub, 1) := by decide +kernel
theorem dX2_finish_74 : decode cX2_finish 74 = .ok (.lshr, 1) := by decide +kernel
theorem dX2_finish_75 : decode cX2_finish 75 = .ok (.ldc2_w 67, 3) := by decide +kernel
theorem dX2_finish_78 : decode cX2_finish 78 = .ok (.land, 1) := by decide +kernel
theorem dX2_finish_79 : decode cX2_finish 79 = .ok (.l2i, 1) := by decide +kernel
theorem dX2_finish_80 : decode cX2_finish 80 = .ok (.invokevirtual 41, 3) := by decide +kernel
theorem dX2_finish_83 : decode cX2_finish 83 = .ok (.iinc 4 1, 3) := by decide +kernel
theorem dX2_finish_86 : decode cX2_finish 86 = .ok (.goto (-33), 3) := by decide +kernel
theorem dX2_finish_89 : decode cX2_finish 89 = .ok (.aload_n 0, 1) := by decide +kernel
theorem dX2_finish_90 : decode cX2_finish 90 = .ok (.getfield 14, 3) := by decide +kernel
theorem dX2_finish_93 : decode cX2_finish 93 = .ok (.getfield 46, 3) := by decide +kernel
theorem dX2_finish_96 : decode cX2_finish 96 = .ok (.iconst 1, 1) := by decide +kernel
theorem dX2_finish_97 : decode cX2_finish 97 = .ok (.isub, 1) := by decide +kernel
theorem dX2_finish_98 : decode cX2_finish 98 = .ok (.istore 4, 2) := by decide +kernel
theorem dX2_finish_100 : decode cX2_finish 100 = .ok (.iload 4, 2) := by decide +kernel
theorem dX2_finish_102 : decode cX2_finish 102 = .ok (.ifCond .lt 29, 3) := by decide +kernel
theorem dX2_finish_105 : decode cX2_finish 105 = .ok (.aload_n 0, 1) := by decide +kernel
theorem dX2_finish_106 : decode cX2_finish 106 = .ok (.getfield 14, 3) := by decide +kernel
theorem dX2_finish_109 : decode cX2_finish 109 = .ok (.iload 4, 2) := by decide +kernel
theorem dX2_finish_111 : decode cX2_finish 111 = .ok (.invokevirtual 49, 3) := by decide +kernel
theorem dX2_finish_114 : decode cX2_finish 114 = .ok (.ifCond .ne 17, 3) := by decide +kernel
theorem dX2_finish_117 : decode cX2_finish 117 = .ok (.aload_n 0, 1) := by decide +kernel
theorem dX2_finish_118 : decode cX2_finish 118 = .ok (.getfield 14, 3) := by decide +kernel
theorem dX2_finish_121 : decode cX2_finish 121 = .ok (.iconst 1, 1) := by decide +kernel
theorem dX2_finish_122 : decode cX2_finish 122 = .ok (.invokevirtual 69, 3) := by decide +kernel
theorem dX2_finish_125 : decode cX2_finish 125 = .ok (.iinc 4 (-1), 3) := by decide +kernel
theorem dX2_finish_128 : decode cX2_finish 128 = .ok (.goto (-28), 3) := by decide +kernel
theorem dX2_finish_131 : decode cX2_finish 131 = .ok (.return_, 1) := by decide +kernel
theorem dX2_leastMultiple_0 : decode cX2_leastMultiple 0 = .ok (.lconst 1, 1) := by decide +kernel
theorem dX2_leastMultiple_1 : decode cX2_leastMultiple 1 = .ok (.bipush 8, 2) := by decide +kernel
theorem dX2_leastMultiple_3 : decode cX2_leastMultiple 3 = .ok (.iload_n 1, 1) := by decide +kernel
theorem dX2_leastMultiple_4 : decode cX2_leastMultiple 4 = .ok (.imul, 1) := by decide +kernel
theorem dX2_leastMultiple_5 : decode cX2_leastMultiple 5 = .ok (.lshl, 1) := by decide +kernel
theorem dX2_leastMultiple_6 : decode cX2_leastMultiple 6 = .ok (.lstore_n 2, 1) := by decide +kernel
theorem dX2_leastMultiple_7 : decode cX2_leastMultiple 7 = .ok (.aload_n 0, 1) := by decide +kernel
theorem dX2_leastMultiple_8 : decode cX2_leastMultiple 8 = .ok (.getfield 20, 3) := by decide +kernel
theorem dX2_leastMultiple_11 : decode cX2_leastMultiple 11 = .ok (.lload_n 2, 1) := by decide +kernel
theorem dX2_leastMultiple_12 : decode cX2_leastMultiple 12 = .ok (.ladd, 1) := by decide +kernel
theorem dX2_leastMultiple_13 : decode cX2_leastMultiple 13 = .ok (.lconst 1, 1) := by decide +kernel
theorem dX2_leastMultiple_14 : decode cX2_leastMultiple 14 = .ok (.lsub, 1) := by decide +kernel
theorem dX2_leastMultiple_15 : decode cX2_leastMultiple 15 = .ok (.lload_n 2, 1) := by decide +kernel
theorem dX2_leastMultiple_16 : decode cX2_leastMultiple 16 = .ok (.lneg, 1) := by decide +kernel
theorem dX2_leastMultiple_17 : decode cX2_leastMultiple 17 = .ok (.land, 1) := by decide +kernel
theorem dX2_leastMultiple_18 : decode cX2_leastMultiple 18 = .ok (.lreturn, 1) := by decide +kernel
theorem dX3_init_0 : decode cX3_init 0 = .ok (.aload_n 0, 1) := by decide +kernel
theorem dX3_init_1 : decode cX3_init 1 = .ok (.invokespecial 3, 3) := by decide +kernel
theorem dX3_init_4 : decode cX3_init 4 = .ok (.aload_n 0, 1) := by decide +kernel
theorem dX3_init_5 : decode cX3_init 5 = .ok (.new 9, 3) := by decide +kernel
theorem dX3_init_8 : decode cX3_init 8 = .ok (.dup, 1) := by decide +kernel
theorem dX3_init_9 : decode cX3_init 9 = .ok (.sipush 201, 3) := by decide +kernel
theorem dX3_init_12 : decode cX3_init 12 = .ok (.invokespecial 11, 3) := by decide +kernel
theorem dX3_init_15 : decode cX3_init 15 = .ok (.putfield 14, 3) := by decide +kernel
theorem dX3_init_18 : decode cX3_init 18 = .ok (.aload_n 0, 1) := by decide +kernel
theorem dX3_init_19 : decode cX3_init 19 = .ok (.new 9, 3) := by decide +kernel
theorem dX3_init_22 : decode cX3_init 22 = .ok (.dup, 1) := by decide +kernel
theorem dX3_init_23 : decode cX3_init 23 = .ok (.sipush 201, 3) := by decide +kernel
theorem dX3_init_26 : decode cX3_init 26 = .ok (.invokespecial 11, 3) := by decide +kernel
theorem dX3_init_29 : decode cX3_init 29 = .ok (.putfield 20, 3) := by decide +kernel
theorem dX3_init_32 : decode cX3_init 32 = .ok (.aload_n 0, 1) := by decide +kernel
theorem dX3_init_33 : decode cX3_init 33 = .ok (.new 9, 3) := by decide +kernel
theorem dX3_init_36 : decode cX3_init 36 = .ok (.dup, 1) := by decide +kernel
theorem dX3_init_37 : decode cX3_init 37 = .ok (.sipush 201, 3) := by decide +kernel
theorem dX3_init_40 : decode cX3_init 40 = .ok (.invokespecial 11, 3) := by decide +kernel
theorem dX3_init_43 : decode cX3_init 43 = .ok (.putfield 23, 3) := by decide +kernel
theorem dX3_init_46 : decode cX3_init 46 = .ok (.aload_n 0, 1) := by decide +kernel
theorem dX3_init_47 : decode cX3_init 47 = .ok (.new 9, 3) := by decide +kernel
theorem dX3_init_50 : decode cX3_init 50 = .ok (.dup, 1) := by decide +kernel
theorem dX3_init_51 : decode cX3_init 51 = .ok (.sipush 201, 3) := by decide +kernel
theorem dX3_init_54 : decode cX3_init 54 = .ok (.invokespecial 11, 3) := by decide +kernel
theorem dX3_init_57 : decode cX3_init 57 = .ok (.putfield 26, 3) := by decide +kernel
theorem dX3_init_60 : decode cX3_init 60 = .ok (.return_, 1) := by decide +kernel
theorem dX3_clear_0 : decode cX3_clear 0 = .ok (.aload_n 0, 1) := by decide +kernel
theorem dX3_clear_1 : decode cX3_clear 1 = .ok (.getfield 14, 3) := by decide +kernel
theorem dX3_clear_4 : decode cX3_clear 4 = .ok (.invokevirtual 29, 3) := by decide +kernel
theorem dX3_clear_7 : decode cX3_clear 7 = .ok (.aload_n 0, 1) := by decide +kernel
theorem dX3_clear_8 : decode cX3_clear 8 = .ok (.getfield 20, 3) := by decide +kernel
theorem dX3_clear_11 : decode cX3_clear 11 = .ok (.invokevirtual 29, 3) := by decide +kernel
theorem dX3_clear_14 : decode cX3_clear 14 = .ok (.aload_n 0, 1) := by decide +kernel
theorem dX3_clear_15 : decode cX3_clear 15 = .ok (.getfield 23, 3) := by decide +kernel
theorem dX3_clear_18 : decode cX3_clear 18 = .ok (.invokevirtual 29, 3) := by decide +kernel
theorem dX3_clear_21 : decode cX3_clear 21 = .ok (.aload_n 0, 1) := by decide +kernel
theorem dX3_clear_22 : decode cX3_clear 22 = .ok (.getfield 26, 3) := by decide +kernel
theorem dX3_clear_25 : decode cX3_clear 25 = .ok (.invokevirtual 29, 3) := by decide +kernel
theorem dX3_clear_28 : decode cX3_clear 28 = .ok (.aload_n 0, 1) := by decide +kernel
theorem dX3_clear_29 : decode cX3_clear 29 = .ok (.iconst 0, 1) := by decide +kernel
theorem dX3_clear_30 : decode cX3_clear 30 = .ok (.putfield 32, 3) := by decide +kernel
theorem dX3_clear_33 : decode cX3_clear 33 = .ok (.return_, 1) := by decide +kernel
theorem dX3_add_0 : decode cX3_add 0 = .ok (.aload_n 0, 1) := by decide +kernel
theorem dX3_add_1 : decode cX3_add 1 = .ok (.getfield 14, 3) := by decide +kernel
theorem dX3_add_4 : decode cX3_add 4 = .ok (.iload_n 1, 1) := by decide +kernel
theorem dX3_add_5 : decode cX3_add 5 = .ok (.invokevirtual 36, 3) := by decide +kernel
theorem dX3_add_8 : decode cX3_add 8 = .ok (.aload_n 0, 1) := by decide +kernel
theorem dX3_add_9 : decode cX3_add 9 = .ok (.getfield 20, 3) := by decide +kernel
theorem dX3_add_12 : decode cX3_add 12 = .ok (.iload_n 2, 1) := by decide +kernel
theorem dX3_add_13 : decode cX3_add 13 = .ok (.invokevirtual 36, 3) := by decide +kernel
theorem dX3_add_16 : decode cX3_add 16 = .ok (.aload_n 0, 1) := by decide +kernel
theorem dX3_add_17 : decode cX3_add 17 = .ok (.getfield 23, 3) := by decide +kernel
theorem dX3_add_20 : decode cX3_add 20 = .ok (.iload_n 3, 1) := by decide +kernel
theorem dX3_add_21 : decode cX3_add 21 = .ok (.invokevirtual 36, 3) := by decide +kernel
theorem dX3_add_24 : decode cX3_add 24 = .ok (.aload_n 0, 1) := by decide +kernel
theorem dX3_add_25 : decode cX3_add 25 = .ok (.getfield 26, 3) := by decide +kernel
theorem dX3_add_28 : decode cX3_add 28 = .ok (.iload 4, 2) := by decide +kernel
theorem dX3_add_30 : decode cX3_add 30 = .ok (.invokevirtual 36, 3) := by decide +kernel
theorem dX3_add_33 : decode cX3_add 33 = .ok (.return_, 1) := by decide +kernel
theorem dX3_take_0 : decode cX3_take 0 = .ok (.aload_n 0, 1) := by decide +kernel
theorem dX3_take_1 : decode cX3_take 1 = .ok (.getfield 14, 3) := by decide +kernel
theorem dX3_take_4 : decode cX3_take 4 = .ok (.aload_n 1, 1) := by decide +kernel
theorem dX3_take_5 : decode cX3_take 5 = .ok (.getfield 14, 3) := by decide +kernel
theorem dX3_take_8 : decode cX3_take 8 = .ok (.invokevirtual 39, 3) := by decide +kernel
theorem dX3_take_11 : decode cX3_take 11 = .ok (.aload_n 0, 1) := by decide +kernel
theorem dX3_take_12 : decode cX3_take 12 = .ok (.getfield 20, 3) := by decide +kernel
theorem dX3_take_15 : decode cX3_take 15 = .ok (.aload_n 1, 1) := by decide +kernel
theorem dX3_take_16 : decode cX3_take 16 = .ok (.getfield 20, 3) := by decide +kernel
theorem dX3_take_19 : decode cX3_take 19 = .ok (.invokevirtual 39, 3) := by decide +kernel
theorem dX3_take_22 : decode cX3_take 22 = .ok (.aload_n 0, 1) := by decide +kernel
theorem dX3_take_23 : decode cX3_take 23 = .ok (.getfield 23, 3) := by decide +kernel
theorem dX3_take_26 : decode cX3_take 26 = .ok (.aload_n 1, 1) := by decide +kernel
theorem dX3_take_27 : decode cX3_take 27 = .ok (.getfield 23, 3) := by decide +kernel
theorem dX3_take_30 : decode cX3_take 30 = .ok (.invokevirtual 39, 3) := by decide +kernel
theorem dX3_take_33 : decode cX3_take 33 = .ok (.aload_n 0, 1) := by decide +kernel
theorem dX3_take_34 : decode cX3_take 34 = .ok (.getfield 26, 3) := by decide +kernel
theorem dX3_take_37 : decode cX3_take 37 = .ok (.aload_n 1, 1) := by decide +kernel
theorem dX3_take_38 : decode cX3_take 38 = .ok (.getfield 26, 3) := by decide +kernel
theorem dX3_take_41 : decode cX3_take 41 = .ok (.invokevirtual 39, 3) := by decide +kernel
theorem dX3_take_44 : decode cX3_take 44 = .ok (.aload_n 0, 1) := by decide +kernel
theorem dX3_take_45 : decode cX3_take 45 = .ok (.aload_n 1, 1) := by decide +kernel
theorem dX3_take_46 : decode cX3_take 46 = .ok (.getfield 32, 3) := by decide +kernel
theorem dX3_take_49 : decode cX3_take 49 = .ok (.putfield 32, 3) := by decide +kernel
theorem dX3_take_52 : decode cX3_take 52 = .ok (.return_, 1) := by decide +kernel
theorem dX4_init_0 : decode cX4_init 0 = .ok (.aload_n 0, 1) := by decide +kernel
theorem dX4_init_1 : decode cX4_init 1 = .ok (.invokespecial 3, 3) := by decide +kernel
theorem dX4_init_4 : decode cX4_init 4 = .ok (.aload_n 0, 1) := by decide +kernel
theorem dX4_init_5 : decode cX4_init 5 = .ok (.sipush 250, 3) := by decide +kernel
theorem dX4_init_8 : decode cX4_init 8 = .ok (.newarray .int, 2) := by decide +kernel
theorem dX4_init_10 : decode cX4_init 10 = .ok (.putfield 9, 3) := by decide +kernel
theorem dX4_init_13 : decode cX4_init 13 = .ok (.aload_n 0, 1) := by decide +kernel
theorem dX4_init_14 : decode cX4_init 14 = .ok (.sipush 250, 3) := by decide +kernel
theorem dX4_init_17 : decode cX4_init 17 = .ok (.newarray .int, 2) := by decide +kernel
theorem dX4_init_19 : decode cX4_init 19 = .ok (.putfield 15, 3) := by decide +kernel
theorem dX4_init_22 : decode cX4_init 22 = .ok (.aload_n 0, 1) := by decide +kernel
theorem dX4_init_23 : decode cX4_init 23 = .ok (.sipush 250, 3) := by decide +kernel
theorem dX4_init_26 : decode cX4_init 26 = .ok (.newarray .int, 2) := by decide +kernel
theorem dX4_init_28 : decode cX4_init 28 = .ok (.putfield 18, 3) := by decide +kernel
theorem dX4_init_31 : decode cX4_init 31 = .ok (.aload_n 0, 1) := by decide +kernel
theorem dX4_init_32 : decode cX4_init 32 = .ok (.sipush 24000, 3) := by decide +kernel
theorem dX4_init_35 : decode cX4_init 35 = .ok (.newarray .int, 2) := by decide +kernel
theorem dX4_init_37 : decode cX4_init 37 = .ok (.putfield 21, 3) := by decide +kernel
theorem dX4_init_40 : decode cX4_init 40 = .ok (.return_, 1) := by decide +kernel
theorem dX4_clear_0 : decode cX4_clear 0 = .ok (.aload_n 0, 1) := by decide +kernel
theorem dX4_clear_1 : decode cX4_clear 1 = .ok (.iconst 0, 1) := by decide +kernel
theorem dX4_clear_2 : decode cX4_clear 2 = .ok (.putfield 24, 3) := by decide +kernel
theorem dX4_clear_5 : decode cX4_clear 5 = .ok (.return_, 1) := by decide +kernel
theorem dX4_take_0 : decode cX4_take 0 = .ok (.aload_n 0, 1) := by decide +kernel
theorem dX4_take_1 : decode cX4_take 1 = .ok (.iconst 0, 1) := by decide +kernel
theorem dX4_take_2 : decode cX4_take 2 = .ok (.aload_n 1, 1) := by decide +kernel
theorem dX4_take_3 : decode cX4_take 3 = .ok (.getfield 24, 3) := by decide +kernel
theorem dX4_take_6 : decode cX4_take 6 = .ok (.sipush 250, 3) := by decide +kernel
theorem dX4_take_9 : decode cX4_take 9 = .ok (.invokestatic 28, 3) := by decide +kernel
theorem dX4_take_12 : decode cX4_take 12 = .ok (.invokestatic 34, 3) := by decide +kernel
theorem dX4_take_15 : decode cX4_take 15 = .ok (.putfield 24, 3) := by decide +kernel
theorem dX4_take_18 : decode cX4_take 18 = .ok (.aload_n 1, 1) := by decide +kernel
theorem dX4_take_19 : decode cX4_take 19 = .ok (.getfield 9, 3) := by decide +kernel
theorem dX4_take_22 : decode cX4_take 22 = .ok (.iconst 0, 1) := by decide +kernel
theorem dX4_take_23 : decode cX4_take 23 = .ok (.aload_n 0, 1) := by decide +kernel
theorem dX4_take_24 : decode cX4_take 24 = .ok (.getfield 9, 3) := by decide +kernel
theorem dX4_take_27 : decode cX4_take 27 = .ok (.iconst 0, 1) := by decide +kernel
theorem dX4_take_28 : decode cX4_take 28 = .ok (.aload_n 0, 1) := by decide +kernel
theorem dX4_take_29 : decode cX4_take 29 = .ok (.getfield 24, 3) := by decide +kernel
theorem dX4_take_32 : decode cX4_take 32 = .ok (.invokestatic 37, 3) := by decide +kernel
theorem dX4_take_35 : decode cX4_take 35 = .ok (.aload_n 1, 1) := by decide +kernel
theorem dX4_take_36 : decode cX4_take 36 = .ok (.getfield 15, 3) := by decide +kernel
theorem dX4_take_39 : decode cX4_take 39 = .ok (.iconst 0, 1) := by decide +kernel
theorem dX4_take_40 : decode cX4_take 40 = .ok (.aload_n 0, 1) := by decide +kernel
theorem dX4_take_41 : decode cX4_take 41 = .ok (.getfield 15, 3) := by decide +kernel
theorem dX4_take_44 : decode cX4_take 44 = .ok (.iconst 0, 1) := by decide +kernel
theorem dX4_take_45 : decode cX4_take 45 = .ok (.aload_n 0, 1) := by decide +kernel
theorem dX4_take_46 : decode cX4_take 46 = .ok (.getfield 24, 3) := by decide +kernel
theorem dX4_take_49 : decode cX4_take 49 = .ok (.invokestatic 37, 3) := by decide +kernel
theorem dX4_take_52 : decode cX4_take 52 = .ok (.aload_n 1, 1) := by decide +kernel
theorem dX4_take_53 : decode cX4_take 53 = .ok (.getfield 18, 3) := by decide +kernel
theorem dX4_take_56 : decode cX4_take 56 = .ok (.iconst 0, 1) := by decide +kernel
theorem dX4_take_57 : decode cX4_take 57 = .ok (.aload_n 0, 1) := by decide +kernel
theorem dX4_take_58 : decode cX4_take 58 = .ok (.getfield 18, 3) := by decide +kernel
theorem dX4_take_61 : decode cX4_take 61 = .ok (.iconst 0, 1) := by decide +kernel
theorem dX4_take_62 : decode cX4_take 62 = .ok (.aload_n 0, 1) := by decide +kernel
theorem dX4_take_63 : decode cX4_take 63 = .ok (.getfield 24, 3) := by decide +kernel
theorem dX4_take_66 : decode cX4_take 66 = .ok (.invokestatic 37, 3) := by decide +kernel
theorem dX4_take_69 : decode cX4_take 69 = .ok (.aload_n 1, 1) := by decide +kernel
theorem dX4_take_70 : decode cX4_take 70 = .ok (.getfield 21, 3) := by decide +kernel
theorem dX4_take_73 : decode cX4_take 73 = .ok (.iconst 0, 1) := by decide +kernel
theorem dX4_take_74 : decode cX4_take 74 = .ok (.aload_n 0, 1) := by decide +kernel
theorem dX4_take_75 : decode cX4_take 75 = .ok (.getfield 21, 3) := by decide +kernel
theorem dX4_take_78 : decode cX4_take 78 = .ok (.iconst 0, 1) := by decide +kernel
theorem dX4_take_79 : decode cX4_take 79 = .ok (.aload_n 0, 1) := by decide +kernel
theorem dX4_take_80 : decode cX4_take 80 = .ok (.getfield 24, 3) := by decide +kernel
theorem dX4_take_83 : decode cX4_take 83 = .ok (.bipush 96, 2) := by decide +kernel
theorem dX4_take_85 : decode cX4_take 85 = .ok (.imul, 1) := by decide +kernel
theorem dX4_take_86 : decode cX4_take 86 = .ok (.invokestatic 37, 3) := by decide +kernel
theorem dX4_take_89 : decode cX4_take 89 = .ok (.return_, 1) := by decide +kernel
theorem dX4_find_0 : decode cX4_find 0 = .ok (.iconst 0, 1) := by decide +kernel
theorem dX4_find_1 : decode cX4_find 1 = .ok (.istore_n 2, 1) := by decide +kernel
theorem dX4_find_2 : decode cX4_find 2 = .ok (.iload_n 2, 1) := by decide +kernel
theorem dX4_find_3 : decode cX4_find 3 = .ok (.aload_n 0, 1) := by decide +kernel
theorem dX4_find_4 : decode cX4_find 4 = .ok (.getfield 24, 3) := by decide +kernel
theorem dX4_find_7 : decode cX4_find 7 = .ok (.if_icmp .ge 30, 3) := by decide +kernel
theorem dX4_find_10 : decode cX4_find 10 = .ok (.iload_n 2, 1) := by decide +kernel
theorem dX4_find_11 : decode cX4_find 11 = .ok (.aload_n 0, 1) := by decide +kernel
theorem dX4_find_12 : decode cX4_find 12 = .ok (.getfield 9, 3) := by decide +kernel
theorem dX4_find_15 : decode cX4_find 15 = .ok (.arraylength, 1) := by decide +kernel
theorem dX4_find_16 : decode cX4_find 16 = .ok (.if_icmp .ge 21, 3) := by decide +kernel
theorem dX4_find_19 : decode cX4_find 19 = .ok (.aload_n 0, 1) := by decide +kernel
theorem dX4_find_20 : decode cX4_find 20 = .ok (.getfield 9, 3) := by decide +kernel
theorem dX4_find_23 : decode cX4_find 23 = .ok (.iload_n 2, 1) := by decide +kernel
theorem dX4_find_24 : decode cX4_find 24 = .ok (.iaload, 1) := by decide +kernel
theorem dX4_find_25 : decode cX4_find 25 = .ok (.iload_n 1, 1) := by decide +kernel
theorem dX4_find_26 : decode cX4_find 26 = .ok (.if_icmp .ne 5, 3) := by decide +kernel
theorem dX4_find_29 : decode cX4_find 29 = .ok (.iload_n 2, 1) := by decide +kernel
theorem dX4_find_30 : decode cX4_find 30 = .ok (.ireturn, 1) := by decide +kernel
theorem dX4_find_31 : decode cX4_find 31 = .ok (.iinc 2 1, 3) := by decide +kernel
theorem dX4_find_34 : decode cX4_find 34 = .ok (.goto (-32), 3) := by decide +kernel
theorem dX4_find_37 : decode cX4_find 37 = .ok (.iconst (-1), 1) := by decide +kernel
theorem dX4_find_38 : decode cX4_find 38 = .ok (.ireturn, 1) := by decide +kernel
theorem dX4_meet_0 : decode cX4_meet 0 = .ok (.aload_n 0, 1) := by decide +kernel
theorem dX4_meet_1 : decode cX4_meet 1 = .ok (.iload_n 1, 1) := by decide +kernel
theorem dX4_meet_2 : decode cX4_meet 2 = .ok (.invokevirtual 43, 3) := by decide +kernel
theorem dX4_meet_5 : decode cX4_meet 5 = .ok (.istore_n 2, 1) := by decide +kernel
theorem dX4_meet_6 : decode cX4_meet 6 = .ok (.iload_n 2, 1) := by decide +kernel
theorem dX4_meet_7 : decode cX4_meet 7 = .ok (.ifCond .ge 20, 3) := by decide +kernel
theorem dX4_meet_10 : decode cX4_meet 10 = .ok (.aload_n 0, 1) := by decide +kernel
theorem dX4_meet_11 : decode cX4_meet 11 = .ok (.getfield 24, 3) := by decide +kernel
theorem dX4_meet_14 : decode cX4_meet 14 = .ok (.ifCond .lt 13, 3) := by decide +kernel
theorem dX4_meet_17 : decode cX4_meet 17 = .ok (.aload_n 0, 1) := by decide +kernel
theorem dX4_meet_18 : decode cX4_meet 18 = .ok (.getfield 24, 3) := by decide +kernel
theorem dX4_meet_21 : decode cX4_meet 21 = .ok (.sipush 250, 3) := by decide +kernel
theorem dX4_meet_24 : decode cX4_meet 24 = .ok (.if_icmp .lt 5, 3) := by decide +kernel
theorem dX4_meet_27 : decode cX4_meet 27 = .ok (.iload_n 2, 1) := by decide +kernel
theorem dX4_meet_28 : decode cX4_meet 28 = .ok (.ireturn, 1) := by decide +kernel
theorem dX4_meet_29 : decode cX4_meet 29 = .ok (.aload_n 0, 1) := by decide +kernel
theorem dX4_meet_30 : decode cX4_meet 30 = .ok (.getfield 24, 3) := by decide +kernel
theorem dX4_meet_33 : decode cX4_meet 33 = .ok (.istore_n 2, 1) := by decide +kernel
theorem dX4_meet_34 : decode cX4_meet 34 = .ok (.aload_n 0, 1) := by decide +kernel
theorem dX4_meet_35 : decode cX4_meet 35 = .ok (.dup, 1) := by decide +kernel
theorem dX4_meet_36 : decode cX4_meet 36 = .ok (.getfield 24, 3) := by decide +kernel
theorem dX4_meet_39 : decode cX4_meet 39 = .ok (.iconst 1, 1) := by decide +kernel
theorem dX4_meet_40 : decode cX4_meet 40 = .ok (.iadd, 1) := by decide +kernel
theorem dX4_meet_41 : decode cX4_meet 41 = .ok (.putfield 24, 3) := by decide +kernel
theorem dX4_meet_44 : decode cX4_meet 44 = .ok (.aload_n 0, 1) := by decide +kernel
theorem dX4_meet_45 : decode cX4_meet 45 = .ok (.getfield 9, 3) := by decide +kernel
theorem dX4_meet_48 : decode cX4_meet 48 = .ok (.iload_n 2, 1) := by decide +kernel
theorem dX4_meet_49 : decode cX4_meet 49 = .ok (.iload_n 1, 1) := by decide +kernel
theorem dX4_meet_50 : decode cX4_meet 50 = .ok (.iastore, 1) := by decide +kernel
theorem dX4_meet_51 : decode cX4_meet 51 = .ok (.aload_n 0, 1) := by decide +kernel
theorem dX4_meet_52 : decode cX4_meet 52 = .ok (.getfield 15, 3) := by decide +kernel
theorem dX4_meet_55 : decode cX4_meet 55 = .ok (.iload_n 2, 1) := by decide +kernel
theorem dX4_meet_56 : decode cX4_meet 56 = .ok (.iconst 0, 1) := by decide +kernel
theorem dX4_meet_57 : decode cX4_meet 57 = .ok (.iastore, 1) := by decide +kernel
theorem dX4_meet_58 : decode cX4_meet 58 = .ok (.aload_n 0, 1) := by decide +kernel
theorem dX4_meet_59 : decode cX4_meet 59 = .ok (.getfield 18, 3) := by decide +kernel
theorem dX4_meet_62 : decode cX4_meet 62 = .ok (.iload_n 2, 1) := by decide +kernel
theorem dX4_meet_63 : decode cX4_meet 63 = .ok (.iconst 0, 1) := by decide +kernel
theorem dX4_meet_64 : decode cX4_meet 64 = .ok (.iastore, 1) := by decide +kernel
theorem dX4_meet_65 : decode cX4_meet 65 = .ok (.iconst 0, 1) := by decide +kernel
theorem dX4_meet_66 : decode cX4_meet 66 = .ok (.istore_n 3, 1) := by decide +kernel
theorem dX4_meet_67 : decode cX4_meet 67 = .ok (.iload_n 3, 1) := by decide +kernel
theorem dX4_meet_68 : decode cX4_meet 68 = .ok (.bipush 96, 2) := by decide +kernel
theorem dX4_meet_70 : decode cX4_meet 70 = .ok (.if_icmp .ge 21, 3) := by decide +kernel
theorem dX4_meet_73 : decode cX4_meet 73 = .ok (.aload_n 0, 1) := by decide +kernel
theorem dX4_meet_74 : decode cX4_meet 74 = .ok (.getfield 21, 3) := by decide +kernel
theorem dX4_meet_77 : decode cX4_meet 77 = .ok (.iload_n 2, 1) := by decide +kernel
theorem dX4_meet_78 : decode cX4_meet 78 = .ok (.bipush 96, 2) := by decide +kernel
theorem dX4_meet_80 : decode cX4_meet 80 = .ok (.imul, 1) := by decide +kernel
theorem dX4_meet_81 : decode cX4_meet 81 = .ok (.iload_n 3, 1) := by decide +kernel
theorem dX4_meet_82 : decode cX4_meet 82 = .ok (.iadd, 1) := by decide +kernel
theorem dX4_meet_83 : decode cX4_meet 83 = .ok (.iconst 0, 1) := by decide +kernel
theorem dX4_meet_84 : decode cX4_meet 84 = .ok (.iastore, 1) := by decide +kernel
theorem dX4_meet_85 : decode cX4_meet 85 = .ok (.iinc 3 1, 3) := by decide +kernel
theorem dX4_meet_88 : decode cX4_meet 88 = .ok (.goto (-21), 3) := by decide +kernel
theorem dX4_meet_91 : decode cX4_meet 91 = .ok (.iload_n 2, 1) := by decide +kernel
theorem dX4_meet_92 : decode cX4_meet 92 = .ok (.ireturn, 1) := by decide +kernel
theorem dX4_has_0 : decode cX4_has 0 = .ok (.iload_n 1, 1) := by decide +kernel
theorem dX4_has_1 : decode cX4_has 1 = .ok (.ifCond .lt 22, 3) := by decide +kernel
theorem dX4_has_4 : decode cX4_has 4 = .ok (.iload_n 1, 1) := by decide +kernel
theorem dX4_has_5 : decode cX4_has 5 = .ok (.aload_n 0, 1) := by decide +kernel
theorem dX4_has_6 : decode cX4_has 6 = .ok (.getfield 24, 3) := by decide +kernel
theorem dX4_has_9 : decode cX4_has 9 = .ok (.if_icmp .ge 14, 3) := by decide +kernel
theorem dX4_has_12 : decode cX4_has 12 = .ok (.iload_n 1, 1) := by decide +kernel
theorem dX4_has_13 : decode cX4_has 13 = .ok (.sipush 250, 3) := by decide +kernel
theorem dX4_has_16 : decode cX4_has 16 = .ok (.if_icmp .ge 7, 3) := by decide +kernel
theorem dX4_has_19 : decode cX4_has 19 = .ok (.iconst 1, 1) := by decide +kernel
theorem dX4_has_20 : decode cX4_has 20 = .ok (.goto 4, 3) := by decide +kernel
theorem dX4_has_23 : decode cX4_has 23 = .ok (.iconst 0, 1) := by decide +kernel
theorem dX4_has_24 : decode cX4_has 24 = .ok (.ireturn, 1) := by decide +kernel
theorem dX4_countIn_0 : decode cX4_countIn 0 = .ok (.iload_n 1, 1) := by decide +kernel
theorem dX4_countIn_1 : decode cX4_countIn 1 = .ok (.ifCond .lt 32, 3) := by decide +kernel
theorem dX4_countIn_4 : decode cX4_countIn 4 = .ok (.iload_n 1, 1) := by decide +kernel
theorem dX4_countIn_5 : decode cX4_countIn 5 = .ok (.aload_n 0, 1) := by decide +kernel
theorem dX4_countIn_6 : decode cX4_countIn 6 = .ok (.getfield 24, 3) := by decide +kernel
theorem dX4_countIn_9 : decode cX4_countIn 9 = .ok (.if_icmp .ge 24, 3) := by decide +kernel
theorem dX4_countIn_12 : decode cX4_countIn 12 = .ok (.iload_n 1, 1) := by decide +kernel
theorem dX4_countIn_13 : decode cX4_countIn 13 = .ok (.sipush 250, 3) := by decide +kernel
theorem dX4_countIn_16 : decode cX4_countIn 16 = .ok (.if_icmp .ge 17, 3) := by decide +kernel
theorem dX4_countIn_19 : decode cX4_countIn 19 = .ok (.iload_n 2, 1) := by decide +kernel
theorem dX4_countIn_20 : decode cX4_countIn 20 = .ok (.ifCond .lt 13, 3) := by decide +kernel
theorem dX4_countIn_23 : decode cX4_countIn 23 = .ok (.iload_n 2, 1) := by decide +kernel
theorem dX4_countIn_24 : decode cX4_countIn 24 = .ok (.bipush 96, 2) := by decide +kernel
theorem dX4_countIn_26 : decode cX4_countIn 26 = .ok (.if_icmp .ge 7, 3) := by decide +kernel
theorem dX4_countIn_29 : decode cX4_countIn 29 = .ok (.iconst 1, 1) := by decide +kernel
theorem dX4_countIn_30 : decode cX4_countIn 30 = .ok (.goto 4, 3) := by decide +kernel
theorem dX4_countIn_33 : decode cX4_countIn 33 = .ok (.iconst 0, 1) := by decide +kernel
theorem dX4_countIn_34 : decode cX4_countIn 34 = .ok (.istore_n 3, 1) := by decide +kernel
theorem dX4_countIn_35 : decode cX4_countIn 35 = .ok (.iload_n 3, 1) := by decide +kernel
theorem dX4_countIn_36 : decode cX4_countIn 36 = .ok (.ifCond .eq 17, 3) := by decide +kernel
theorem dX4_countIn_39 : decode cX4_countIn 39 = .ok (.aload_n 0, 1) := by decide +kernel
theorem dX4_countIn_40 : decode cX4_countIn 40 = .ok (.getfield 21, 3) := by decide +kernel
theorem dX4_countIn_43 : decode cX4_countIn 43 = .ok (.iload_n 1, 1) := by decide +kernel
theorem dX4_countIn_44 : decode cX4_countIn 44 = .ok (.bipush 96, 2) := by decide +kernel
theorem dX4_countIn_46 : decode cX4_countIn 46 = .ok (.imul, 1) := by decide +kernel
theorem dX4_countIn_47 : decode cX4_countIn 47 = .ok (.iload_n 2, 1) := by decide +kernel
theorem dX4_countIn_48 : decode cX4_countIn 48 = .ok (.iadd, 1) := by decide +kernel
theorem dX4_countIn_49 : decode cX4_countIn 49 = .ok (.iaload, 1) := by decide +kernel
theorem dX4_countIn_50 : decode cX4_countIn 50 = .ok (.goto 4, 3) := by decide +kernel
theorem dX4_countIn_53 : decode cX4_countIn 53 = .ok (.iconst 0, 1) := by decide +kernel
theorem dX4_countIn_54 : decode cX4_countIn 54 = .ok (.ireturn, 1) := by decide +kernel
theorem dX4_weightOf_0 : decode cX4_weightOf 0 = .ok (.aload_n 0, 1) := by decide +kernel
theorem dX4_weightOf_1 : decode cX4_weightOf 1 = .ok (.iload_n 1, 1) := by decide +kernel
theorem dX4_weightOf_2 : decode cX4_weightOf 2 = .ok (.invokevirtual 47, 3) := by decide +kernel
theorem dX4_weightOf_5 : decode cX4_weightOf 5 = .ok (.ifCond .eq 12, 3) := by decide +kernel
theorem dX4_weightOf_8 : decode cX4_weightOf 8 = .ok (.aload_n 0, 1) := by decide +kernel
theorem dX4_weightOf_9 : decode cX4_weightOf 9 = .ok (.getfield 15, 3) := by decide +kernel
theorem dX4_weightOf_12 : decode cX4_weightOf 12 = .ok (.iload_n 1, 1) := by decide +kernel
theorem dX4_weightOf_13 : decode cX4_weightOf 13 = .ok (.iaload, 1) := by decide +kernel
theorem dX4_weightOf_14 : decode cX4_weightOf 14 = .ok (.goto 4, 3) := by decide +kernel
theorem dX4_weightOf_17 : decode cX4_weightOf 17 = .ok (.iconst 0, 1) := by decide +kernel
theorem dX4_weightOf_18 : decode cX4_weightOf 18 = .ok (.ireturn, 1) := by decide +kernel
theorem dX4_knownIn_0 : decode cX4_knownIn 0 = .ok (.aload_n 0, 1) := by decide +kernel
theorem dX4_knownIn_1 : decode cX4_knownIn 1 = .ok (.iload_n 1, 1) := by decide +kernel
theorem dX4_knownIn_2 : decode cX4_knownIn 2 = .ok (.invokevirtual 47, 3) := by decide +kernel
theorem dX4_knownIn_5 : decode cX4_knownIn 5 = .ok (.ifCond .eq 12, 3) := by decide +kernel
theorem dX4_knownIn_8 : decode cX4_knownIn 8 = .ok (.aload_n 0, 1) := by decide +kernel
theorem dX4_knownIn_9 : decode cX4_knownIn 9 = .ok (.getfield 18, 3) := by decide +kernel
theorem dX4_knownIn_12 : decode cX4_knownIn 12 = .ok (.iload_n 1, 1) := by decide +kernel
theorem dX4_knownIn_13 : decode cX4_knownIn 13 = .ok (.iaload, 1) := by decide +kernel
theorem dX4_knownIn_14 : decode cX4_knownIn 14 = .ok (.goto 4, 3) := by decide +kernel
theorem dX4_knownIn_17 : decode cX4_knownIn 17 = .ok (.iconst 0, 1) := by decide +kernel
theorem dX4_knownIn_18 : decode cX4_knownIn 18 = .ok (.ireturn, 1) := by decide +kernel
theorem dX4_raise_0 : decode cX4_raise 0 = .ok (.aload_n 0, 1) := by decide +kernel
theorem dX4_raise_1 : decode cX4_raise 1 = .ok (.iload_n 1, 1) := by decide +kernel
theorem dX4_raise_2 : decode cX4_raise 2 = .ok (.invokevirtual 47, 3) := by decide +kernel
theorem dX4_raise_5 : decode cX4_raise 5 = .ok (.ifCond .eq 13, 3) := by decide +kernel
theorem dX4_raise_8 : decode cX4_raise 8 = .ok (.iload_n 2, 1) := by decide +kernel
theorem dX4_raise_9 : decode cX4_raise 9 = .ok (.ifCond .lt 9, 3) := by decide +kernel
theorem dX4_raise_12 : decode cX4_raise 12 = .ok (.iload_n 2, 1) := by decide +kernel
theorem dX4_raise_13 : decode cX4_raise 13 = .ok (.bipush 96, 2) := by decide +kernel
theorem dX4_raise_15 : decode cX4_raise 15 = .ok (.if_icmp .lt 4, 3) := by decide +kernel
theorem dX4_raise_18 : decode cX4_raise 18 = .ok (.return_, 1) := by decide +kernel
theorem dX4_raise_19 : decode cX4_raise 19 = .ok (.iload_n 1, 1) := by decide +kernel
theorem dX4_raise_20 : decode cX4_raise 20 = .ok (.bipush 96, 2) := by decide +kernel
theorem dX4_raise_22 : decode cX4_raise 22 = .ok (.imul, 1) := by decide +kernel
theorem dX4_raise_23 : decode cX4_raise 23 = .ok (.iload_n 2, 1) := by decide +kernel
theorem dX4_raise_24 : decode cX4_raise 24 = .ok (.iadd, 1) := by decide +kernel
theorem dX4_raise_25 : decode cX4_raise 25 = .ok (.istore 5, 2) := by decide +kernel
theorem dX4_raise_27 : decode cX4_raise 27 = .ok (.aload_n 0, 1) := by decide +kernel
theorem dX4_raise_28 : decode cX4_raise 28 = .ok (.getfield 21, 3) := by decide +kernel
theorem dX4_raise_31 : decode cX4_raise 31 = .ok (.iload 5, 2) := by decide +kernel
theorem dX4_raise_33 : decode cX4_raise 33 = .ok (.iaload, 1) := by decide +kernel
theorem dX4_raise_34 : decode cX4_raise 34 = .ok (.ifCond .ne 13, 3) := by decide +kernel
theorem dX4_raise_37 : decode cX4_raise 37 = .ok (.aload_n 0, 1) := by decide +kernel
theorem dX4_raise_38 : decode cX4_raise 38 = .ok (.getfield 18, 3) := by decide +kernel
theorem dX4_raise_41 : decode cX4_raise 41 = .ok (.iload_n 1, 1) := by decide +kernel
theorem dX4_raise_42 : decode cX4_raise 42 = .ok (.dup2, 1) := by decide +kernel
theorem dX4_raise_43 : decode cX4_raise 43 = .ok (.iaload, 1) := by decide +kernel
theorem dX4_raise_44 : decode cX4_raise 44 = .ok (.iconst 1, 1) := by decide +kernel
theorem dX4_raise_45 : decode cX4_raise 45 = .ok (.iadd, 1) := by decide +kernel
theorem dX4_raise_46 : decode cX4_raise 46 = .ok (.iastore, 1) := by decide +kernel
theorem dX4_raise_47 : decode cX4_raise 47 = .ok (.aload_n 0, 1) := by decide +kernel
theorem dX4_raise_48 : decode cX4_raise 48 = .ok (.getfield 21, 3) := by decide +kernel
theorem dX4_raise_51 : decode cX4_raise 51 = .ok (.iload 5, 2) := by decide +kernel
theorem dX4_raise_53 : decode cX4_raise 53 = .ok (.dup2, 1) := by decide +kernel
theorem dX4_raise_54 : decode cX4_raise 54 = .ok (.iaload, 1) := by decide +kernel
theorem dX4_raise_55 : decode cX4_raise 55 = .ok (.iload_n 3, 1) := by decide +kernel
theorem dX4_raise_56 : decode cX4_raise 56 = .ok (.iadd, 1) := by decide +kernel
theorem dX4_raise_57 : decode cX4_raise 57 = .ok (.iastore, 1) := by decide +kernel
theorem dX4_raise_58 : decode cX4_raise 58 = .ok (.aload_n 0, 1) := by decide +kernel
theorem dX4_raise_59 : decode cX4_raise 59 = .ok (.getfield 15, 3) := by decide +kernel
theorem dX4_raise_62 : decode cX4_raise 62 = .ok (.iload_n 1, 1) := by decide +kernel
theorem dX4_raise_63 : decode cX4_raise 63 = .ok (.dup2, 1) := by decide +kernel
theorem dX4_raise_64 : decode cX4_raise 64 = .ok (.iaload, 1) := by decide +kernel
theorem dX4_raise_65 : decode cX4_raise 65 = .ok (.iload_n 3, 1) := by decide +kernel
theorem dX4_raise_66 : decode cX4_raise 66 = .ok (.iadd, 1) := by decide +kernel
theorem dX4_raise_67 : decode cX4_raise 67 = .ok (.iastore, 1) := by decide +kernel
theorem dX4_raise_68 : decode cX4_raise 68 = .ok (.aload_n 0, 1) := by decide +kernel
theorem dX4_raise_69 : decode cX4_raise 69 = .ok (.getfield 15, 3) := by decide +kernel
theorem dX4_raise_72 : decode cX4_raise 72 = .ok (.iload_n 1, 1) := by decide +kernel
theorem dX4_raise_73 : decode cX4_raise 73 = .ok (.iaload, 1) := by decide +kernel
theorem dX4_raise_74 : decode cX4_raise 74 = .ok (.iload 4, 2) := by decide +kernel
theorem dX4_raise_76 : decode cX4_raise 76 = .ok (.if_icmp .le 8, 3) := by decide +kernel
theorem dX4_raise_79 : decode cX4_raise 79 = .ok (.aload_n 0, 1) := by decide +kernel
theorem dX4_raise_80 : decode cX4_raise 80 = .ok (.iload_n 1, 1) := by decide +kernel
theorem dX4_raise_81 : decode cX4_raise 81 = .ok (.invokevirtual 51, 3) := by decide +kernel
theorem dX4_raise_84 : decode cX4_raise 84 = .ok (.return_, 1) := by decide +kernel
theorem dX4_halve_0 : decode cX4_halve 0 = .ok (.iconst 0, 1) := by decide +kernel
theorem dX4_halve_1 : decode cX4_halve 1 = .ok (.istore_n 2, 1) := by decide +kernel
theorem dX4_halve_2 : decode cX4_halve 2 = .ok (.iload_n 1, 1) := by decide +kernel
theorem dX4_halve_3 : decode cX4_halve 3 = .ok (.bipush 96, 2) := by decide +kernel
theorem dX4_halve_5 : decode cX4_halve 5 = .ok (.imul, 1) := by decide +kernel
theorem dX4_halve_6 : decode cX4_halve 6 = .ok (.istore_n 3, 1) := by decide +kernel
theorem dX4_halve_7 : decode cX4_halve 7 = .ok (.iload_n 3, 1) := by decide +kernel
theorem dX4_halve_8 : decode cX4_halve 8 = .ok (.iload_n 1, 1) := by decide +kernel
theorem dX4_halve_9 : decode cX4_halve 9 = .ok (.iconst 1, 1) := by decide +kernel
theorem dX4_halve_10 : decode cX4_halve 10 = .ok (.iadd, 1) := by decide +kernel
theorem dX4_halve_11 : decode cX4_halve 11 = .ok (.bipush 96, 2) := by decide +kernel
theorem dX4_halve_13 : decode cX4_halve 13 = .ok (.imul, 1) := by decide +kernel
theorem dX4_halve_14 : decode cX4_halve 14 = .ok (.if_icmp .ge 34, 3) := by decide +kernel
theorem dX4_halve_17 : decode cX4_halve 17 = .ok (.aload_n 0, 1) := by decide +kernel
theorem dX4_halve_18 : decode cX4_halve 18 = .ok (.getfield 21, 3) := by decide +kernel
theorem dX4_halve_21 : decode cX4_halve 21 = .ok (.iload_n 3, 1) := by decide +kernel
theorem dX4_halve_22 : decode cX4_halve 22 = .ok (.aload_n 0, 1) := by decide +kernel
theorem dX4_halve_23 : decode cX4_halve 23 = .ok (.getfield 21, 3) := by decide +kernel
theorem dX4_halve_26 : decode cX4_halve 26 = .ok (.iload_n 3, 1) := by decide +kernel
theorem dX4_halve_27 : decode cX4_halve 27 = .ok (.iaload, 1) := by decide +kernel
theorem dX4_halve_28 : decode cX4_halve 28 = .ok (.iconst 1, 1) := by decide +kernel
theorem dX4_halve_29 : decode cX4_halve 29 = .ok (.iadd, 1) := by decide +kernel
theorem dX4_halve_30 : decode cX4_halve 30 = .ok (.iconst 2, 1) := by decide +kernel
theorem dX4_halve_31 : decode cX4_halve 31 = .ok (.idiv, 1) := by decide +kernel
theorem dX4_halve_32 : decode cX4_halve 32 = .ok (.iastore, 1) := by decide +kernel
theorem dX4_halve_33 : decode cX4_halve 33 = .ok (.iload_n 2, 1) := by decide +kernel
theorem dX4_halve_34 : decode cX4_halve 34 = .ok (.aload_n 0, 1) := by decide +kernel
theorem dX4_halve_35 : decode cX4_halve 35 = .ok (.getfield 21, 3) := by decide +kernel
theorem dX4_halve_38 : decode cX4_halve 38 = .ok (.iload_n 3, 1) := by decide +kernel
theorem dX4_halve_39 : decode cX4_halve 39 = .ok (.iaload, 1) := by decide +kernel
theorem dX4_halve_40 : decode cX4_halve 40 = .ok (.iadd, 1) := by decide +kernel
theorem dX4_halve_41 : decode cX4_halve 41 = .ok (.istore_n 2, 1) := by decide +kernel
theorem dX4_halve_42 : decode cX4_halve 42 = .ok (.iinc 3 1, 3) := by decide +kernel
theorem dX4_halve_45 : decode cX4_halve 45 = .ok (.goto (-38), 3) := by decide +kernel
theorem dX4_halve_48 : decode cX4_halve 48 = .ok (.aload_n 0, 1) := by decide +kernel
theorem dX4_halve_49 : decode cX4_halve 49 = .ok (.getfield 15, 3) := by decide +kernel
theorem dX4_halve_52 : decode cX4_halve 52 = .ok (.iload_n 1, 1) := by decide +kernel
theorem dX4_halve_53 : decode cX4_halve 53 = .ok (.iload_n 2, 1) := by decide +kernel
theorem dX4_halve_54 : decode cX4_halve 54 = .ok (.iastore, 1) := by decide +kernel
theorem dX4_halve_55 : decode cX4_halve 55 = .ok (.return_, 1) := by decide +kernel
theorem dX5_init_0 : decode cX5_init 0 = .ok (.aload_n 0, 1) := by decide +kernel
theorem dX5_init_1 : decode cX5_init 1 = .ok (.invokespecial 3, 3) := by decide +kernel
theorem dX5_init_4 : decode cX5_init 4 = .ok (.aload_n 0, 1) := by decide +kernel
theorem dX5_init_5 : decode cX5_init 5 = .ok (.new 9, 3) := by decide +kernel
theorem dX5_init_8 : decode cX5_init 8 = .ok (.dup, 1) := by decide +kernel
theorem dX5_init_9 : decode cX5_init 9 = .ok (.iconst 5, 1) := by decide +kernel
theorem dX5_init_10 : decode cX5_init 10 = .ok (.invokespecial 11, 3) := by decide +kernel
theorem dX5_init_13 : decode cX5_init 13 = .ok (.putfield 14, 3) := by decide +kernel
theorem dX5_init_16 : decode cX5_init 16 = .ok (.aload_n 0, 1) := by decide +kernel
theorem dX5_init_17 : decode cX5_init 17 = .ok (.new 9, 3) := by decide +kernel
theorem dX5_init_20 : decode cX5_init 20 = .ok (.dup, 1) := by decide +kernel
theorem dX5_init_21 : decode cX5_init 21 = .ok (.iconst 5, 1) := by decide +kernel
theorem dX5_init_22 : decode cX5_init 22 = .ok (.invokespecial 11, 3) := by decide +kernel
theorem dX5_init_25 : decode cX5_init 25 = .ok (.putfield 20, 3) := by decide +kernel
theorem dX5_init_28 : decode cX5_init 28 = .ok (.aload_n 0, 1) := by decide +kernel
theorem dX5_init_29 : decode cX5_init 29 = .ok (.new 9, 3) := by decide +kernel
theorem dX5_init_32 : decode cX5_init 32 = .ok (.dup, 1) := by decide +kernel
theorem dX5_init_33 : decode cX5_init 33 = .ok (.iconst 5, 1) := by decide +kernel
theorem dX5_init_34 : decode cX5_init 34 = .ok (.invokespecial 11, 3) := by decide +kernel
theorem dX5_init_37 : decode cX5_init 37 = .ok (.putfield 23, 3) := by decide +kernel
theorem dX5_init_40 : decode cX5_init 40 = .ok (.return_, 1) := by decide +kernel
theorem dX5_clear_0 : decode cX5_clear 0 = .ok (.aload_n 0, 1) := by decide +kernel
theorem dX5_clear_1 : decode cX5_clear 1 = .ok (.getfield 14, 3) := by decide +kernel
theorem dX5_clear_4 : decode cX5_clear 4 = .ok (.invokevirtual 26, 3) := by decide +kernel
theorem dX5_clear_7 : decode cX5_clear 7 = .ok (.aload_n 0, 1) := by decide +kernel
theorem dX5_clear_8 : decode cX5_clear 8 = .ok (.getfield 20, 3) := by decide +kernel
theorem dX5_clear_11 : decode cX5_clear 11 = .ok (.invokevirtual 26, 3) := by decide +kernel
theorem dX5_clear_14 : decode cX5_clear 14 = .ok (.aload_n 0, 1) := by decide +kernel
theorem dX5_clear_15 : decode cX5_clear 15 = .ok (.getfield 23, 3) := by decide +kernel
theorem dX5_clear_18 : decode cX5_clear 18 = .ok (.invokevirtual 26, 3) := by decide +kernel
theorem dX5_clear_21 : decode cX5_clear 21 = .ok (.aload_n 0, 1) := by decide +kernel
theorem dX5_clear_22 : decode cX5_clear 22 = .ok (.iconst (-1), 1) := by decide +kernel
theorem dX5_clear_23 : decode cX5_clear 23 = .ok (.putfield 29, 3) := by decide +kernel
theorem dX5_clear_26 : decode cX5_clear 26 = .ok (.return_, 1) := by decide +kernel
theorem dX5_add_0 : decode cX5_add 0 = .ok (.aload_n 0, 1) := by decide +kernel
theorem dX5_add_1 : decode cX5_add 1 = .ok (.getfield 14, 3) := by decide +kernel
theorem dX5_add_4 : decode cX5_add 4 = .ok (.iload_n 1, 1) := by decide +kernel
theorem dX5_add_5 : decode cX5_add 5 = .ok (.invokevirtual 33, 3) := by decide +kernel
theorem dX5_add_8 : decode cX5_add 8 = .ok (.aload_n 0, 1) := by decide +kernel
theorem dX5_add_9 : decode cX5_add 9 = .ok (.getfield 20, 3) := by decide +kernel
theorem dX5_add_12 : decode cX5_add 12 = .ok (.iload_n 2, 1) := by decide +kernel
theorem dX5_add_13 : decode cX5_add 13 = .ok (.invokevirtual 33, 3) := by decide +kernel
theorem dX5_add_16 : decode cX5_add 16 = .ok (.aload_n 0, 1) := by decide +kernel
theorem dX5_add_17 : decode cX5_add 17 = .ok (.getfield 23, 3) := by decide +kernel
theorem dX5_add_20 : decode cX5_add 20 = .ok (.iload_n 3, 1) := by decide +kernel
theorem dX5_add_21 : decode cX5_add 21 = .ok (.invokevirtual 33, 3) := by decide +kernel
theorem dX5_add_24 : decode cX5_add 24 = .ok (.return_, 1) := by decide +kernel
theorem dX5_size_0 : decode cX5_size 0 = .ok (.aload_n 0, 1) := by decide +kernel
theorem dX5_size_1 : decode cX5_size 1 = .ok (.getfield 23, 3) := by decide +kernel
theorem dX5_size_4 : decode cX5_size 4 = .ok (.getfield 36, 3) := by decide +kernel
theorem dX5_size_7 : decode cX5_size 7 = .ok (.ireturn, 1) := by decide +kernel
theorem dX5_sumOfCosts_0 : decode cX5_sumOfCosts 0 = .ok (.iconst 0, 1) := by decide +kernel
theorem dX5_sumOfCosts_1 : decode cX5_sumOfCosts 1 = .ok (.istore_n 1, 1) := by decide +kernel
theorem dX5_sumOfCosts_2 : decode cX5_sumOfCosts 2 = .ok (.iconst 0, 1) := by decide +kernel
theorem dX5_sumOfCosts_3 : decode cX5_sumOfCosts 3 = .ok (.istore_n 2, 1) := by decide +kernel
theorem dX5_sumOfCosts_4 : decode cX5_sumOfCosts 4 = .ok (.iload_n 2, 1) := by decide +kernel
theorem dX5_sumOfCosts_5 : decode cX5_sumOfCosts 5 = .ok (.aload_n 0, 1) := by decide +kernel
theorem dX5_sumOfCosts_6 : decode cX5_sumOfCosts 6 = .ok (.getfield 23, 3) := by decide +kernel
theorem dX5_sumOfCosts_9 : decode cX5_sumOfCosts 9 = .ok (.getfield 36, 3) := by decide +kernel
theorem dX5_sumOfCosts_12 : decode cX5_sumOfCosts 12 = .ok (.if_icmp .ge 40, 3) := by decide +kernel
theorem dX5_sumOfCosts_15 : decode cX5_sumOfCosts 15 = .ok (.iload_n 1, 1) := by decide +kernel
theorem dX5_sumOfCosts_16 : decode cX5_sumOfCosts 16 = .ok (.aload_n 0, 1) := by decide +kernel
theorem dX5_sumOfCosts_17 : decode cX5_sumOfCosts 17 = .ok (.getfield 20, 3) := by decide +kernel
theorem dX5_sumOfCosts_20 : decode cX5_sumOfCosts 20 = .ok (.iload_n 2, 1) := by decide +kernel
theorem dX5_sumOfCosts_21 : decode cX5_sumOfCosts 21 = .ok (.invokevirtual 39, 3) := by decide +kernel
theorem dX5_sumOfCosts_24 : decode cX5_sumOfCosts 24 = .ok (.aload_n 0, 1) := by decide +kernel
theorem dX5_sumOfCosts_25 : decode cX5_sumOfCosts 25 = .ok (.getfield 14, 3) := by decide +kernel
theorem dX5_sumOfCosts_28 : decode cX5_sumOfCosts 28 = .ok (.iload_n 2, 1) := by decide +kernel
theorem dX5_sumOfCosts_29 : decode cX5_sumOfCosts 29 = .ok (.invokevirtual 39, 3) := by decide +kernel
theorem dX5_sumOfCosts_32 : decode cX5_sumOfCosts 32 = .ok (.isub, 1) := by decide +kernel
theorem dX5_sumOfCosts_33 : decode cX5_sumOfCosts 33 = .ok (.aload_n 0, 1) := by decide +kernel
theorem dX5_sumOfCosts_34 : decode cX5_sumOfCosts 34 = .ok (.getfield 23, 3) := by decide +kernel
theorem dX5_sumOfCosts_37 : decode cX5_sumOfCosts 37 = .ok (.iload_n 2, 1) := by decide +kernel
theorem dX5_sumOfCosts_38 : decode cX5_sumOfCosts 38 = .ok (.invokevirtual 39, 3) := by decide +kernel
theorem dX5_sumOfCosts_41 : decode cX5_sumOfCosts 41 = .ok (.invokestatic 43, 3) := by decide +kernel
theorem dX5_sumOfCosts_44 : decode cX5_sumOfCosts 44 = .ok (.iadd, 1) := by decide +kernel
theorem dX5_sumOfCosts_45 : decode cX5_sumOfCosts 45 = .ok (.istore_n 1, 1) := by decide +kernel
theorem dX5_sumOfCosts_46 : decode cX5_sumOfCosts 46 = .ok (.iinc 2 1, 3) := by decide +kernel
theorem dX5_sumOfCosts_49 : decode cX5_sumOfCosts 49 = .ok (.goto (-45), 3) := by decide +kernel
theorem dX5_sumOfCosts_52 : decode cX5_sumOfCosts 52 = .ok (.iload_n 1, 1) := by decide +kernel
theorem dX5_sumOfCosts_53 : decode cX5_sumOfCosts 53 = .ok (.ireturn, 1) := by decide +kernel
theorem dX6_init_0 : decode cX6_init 0 = .ok (.aload_n 0, 1) := by decide +kernel
theorem dX6_init_1 : decode cX6_init 1 = .ok (.invokespecial 1, 3) := by decide +kernel
theorem dX6_init_4 : decode cX6_init 4 = .ok (.aload_n 0, 1) := by decide +kernel
theorem dX6_init_5 : decode cX6_init 5 = .ok (.iconst 0, 1) := by decide +kernel
theorem dX6_init_6 : decode cX6_init 6 = .ok (.iload_n 1, 1) := by decide +kernel
theorem dX6_init_7 : decode cX6_init 7 = .ok (.invokestatic 7, 3) := by decide +kernel
theorem dX6_init_10 : decode cX6_init 10 = .ok (.newarray .int, 2) := by decide +kernel
theorem dX6_init_12 : decode cX6_init 12 = .ok (.putfield 13, 3) := by decide +kernel
theorem dX6_init_15 : decode cX6_init 15 = .ok (.aload_n 0, 1) := by decide +kernel
theorem dX6_init_16 : decode cX6_init 16 = .ok (.iconst 0, 1) := by decide +kernel
theorem dX6_init_17 : decode cX6_init 17 = .ok (.putfield 19, 3) := by decide +kernel
theorem dX6_init_20 : decode cX6_init 20 = .ok (.return_, 1) := by decide +kernel
theorem dX6_has_0 : decode cX6_has 0 = .ok (.iload_n 1, 1) := by decide +kernel
theorem dX6_has_1 : decode cX6_has 1 = .ok (.ifCond .lt 24, 3) := by decide +kernel
theorem dX6_has_4 : decode cX6_has 4 = .ok (.iload_n 1, 1) := by decide +kernel
theorem dX6_has_5 : decode cX6_has 5 = .ok (.aload_n 0, 1) := by decide +kernel
theorem dX6_has_6 : decode cX6_has 6 = .ok (.getfield 19, 3) := by decide +kernel
theorem dX6_has_9 : decode cX6_has 9 = .ok (.if_icmp .ge 16, 3) := by decide +kernel
theorem dX6_has_12 : decode cX6_has 12 = .ok (.iload_n 1, 1) := by decide +kernel
theorem dX6_has_13 : decode cX6_has 13 = .ok (.aload_n 0, 1) := by decide +kernel
theorem dX6_has_14 : decode cX6_has 14 = .ok (.getfield 13, 3) := by decide +kernel
theorem dX6_has_17 : decode cX6_has 17 = .ok (.arraylength, 1) := by decide +kernel
theorem dX6_has_18 : decode cX6_has 18 = .ok (.if_icmp .ge 7, 3) := by decide +kernel
theorem dX6_has_21 : decode cX6_has 21 = .ok (.iconst 1, 1) := by decide +kernel
theorem dX6_has_22 : decode cX6_has 22 = .ok (.goto 4, 3) := by decide +kernel
theorem dX6_has_25 : decode cX6_has 25 = .ok (.iconst 0, 1) := by decide +kernel
theorem dX6_has_26 : decode cX6_has 26 = .ok (.ireturn, 1) := by decide +kernel
theorem dX6_item_0 : decode cX6_item 0 = .ok (.aload_n 0, 1) := by decide +kernel
theorem dX6_item_1 : decode cX6_item 1 = .ok (.iload_n 1, 1) := by decide +kernel
theorem dX6_item_2 : decode cX6_item 2 = .ok (.invokevirtual 23, 3) := by decide +kernel
theorem dX6_item_5 : decode cX6_item 5 = .ok (.ifCond .eq 12, 3) := by decide +kernel
theorem dX6_item_8 : decode cX6_item 8 = .ok (.aload_n 0, 1) := by decide +kernel
theorem dX6_item_9 : decode cX6_item 9 = .ok (.getfield 13, 3) := by decide +kernel
theorem dX6_item_12 : decode cX6_item 12 = .ok (.iload_n 1, 1) := by decide +kernel
theorem dX6_item_13 : decode cX6_item 13 = .ok (.iaload, 1) := by decide +kernel
theorem dX6_item_14 : decode cX6_item 14 = .ok (.goto 4, 3) := by decide +kernel
theorem dX6_item_17 : decode cX6_item 17 = .ok (.iconst 0, 1) := by decide +kernel
theorem dX6_item_18 : decode cX6_item 18 = .ok (.ireturn, 1) := by decide +kernel
theorem dX6_put_0 : decode cX6_put 0 = .ok (.aload_n 0, 1) := by decide +kernel
theorem dX6_put_1 : decode cX6_put 1 = .ok (.iload_n 1, 1) := by decide +kernel
theorem dX6_put_2 : decode cX6_put 2 = .ok (.invokevirtual 23, 3) := by decide +kernel
theorem dX6_put_5 : decode cX6_put 5 = .ok (.ifCond .eq 10, 3) := by decide +kernel
theorem dX6_put_8 : decode cX6_put 8 = .ok (.aload_n 0, 1) := by decide +kernel
theorem dX6_put_9 : decode cX6_put 9 = .ok (.getfield 13, 3) := by decide +kernel
theorem dX6_put_12 : decode cX6_put 12 = .ok (.iload_n 1, 1) := by decide +kernel
theorem dX6_put_13 : decode cX6_put 13 = .ok (.iload_n 2, 1) := by decide +kernel
theorem dX6_put_14 : decode cX6_put 14 = .ok (.iastore, 1) := by decide +kernel
theorem dX6_put_15 : decode cX6_put 15 = .ok (.return_, 1) := by decide +kernel
theorem dX6_push_0 : decode cX6_push 0 = .ok (.aload_n 0, 1) := by decide +kernel
theorem dX6_push_1 : decode cX6_push 1 = .ok (.getfield 19, 3) := by decide +kernel
theorem dX6_push_4 : decode cX6_push 4 = .ok (.ifCond .lt 35, 3) := by decide +kernel
theorem dX6_push_7 : decode cX6_push 7 = .ok (.aload_n 0, 1) := by decide +kernel
theorem dX6_push_8 : decode cX6_push 8 = .ok (.getfield 19, 3) := by decide +kernel
theorem dX6_push_11 : decode cX6_push 11 = .ok (.aload_n 0, 1) := by decide +kernel
theorem dX6_push_12 : decode cX6_push 12 = .ok (.getfield 13, 3) := by decide +kernel
theorem dX6_push_15 : decode cX6_push 15 = .ok (.arraylength, 1) := by decide +kernel
theorem dX6_push_16 : decode cX6_push 16 = .ok (.if_icmp .ge 23, 3) := by decide +kernel
theorem dX6_push_19 : decode cX6_push 19 = .ok (.aload_n 0, 1) := by decide +kernel
theorem dX6_push_20 : decode cX6_push 20 = .ok (.getfield 13, 3) := by decide +kernel
theorem dX6_push_23 : decode cX6_push 23 = .ok (.aload_n 0, 1) := by decide +kernel
theorem dX6_push_24 : decode cX6_push 24 = .ok (.getfield 19, 3) := by decide +kernel
theorem dX6_push_27 : decode cX6_push 27 = .ok (.iload_n 1, 1) := by decide +kernel
theorem dX6_push_28 : decode cX6_push 28 = .ok (.iastore, 1) := by decide +kernel
theorem dX6_push_29 : decode cX6_push 29 = .ok (.aload_n 0, 1) := by decide +kernel
theorem dX6_push_30 : decode cX6_push 30 = .ok (.dup, 1) := by decide +kernel
theorem dX6_push_31 : decode cX6_push 31 = .ok (.getfield 19, 3) := by decide +kernel
theorem dX6_push_34 : decode cX6_push 34 = .ok (.iconst 1, 1) := by decide +kernel
theorem dX6_push_35 : decode cX6_push 35 = .ok (.iadd, 1) := by decide +kernel
theorem dX6_push_36 : decode cX6_push 36 = .ok (.putfield 19, 3) := by decide +kernel
theorem dX6_push_39 : decode cX6_push 39 = .ok (.return_, 1) := by decide +kernel
theorem dX6_drop_0 : decode cX6_drop 0 = .ok (.aload_n 0, 1) := by decide +kernel
theorem dX6_drop_1 : decode cX6_drop 1 = .ok (.dup, 1) := by decide +kernel
theorem dX6_drop_2 : decode cX6_drop 2 = .ok (.getfield 19, 3) := by decide +kernel
theorem dX6_drop_5 : decode cX6_drop 5 = .ok (.iconst 0, 1) := by decide +kernel
theorem dX6_drop_6 : decode cX6_drop 6 = .ok (.iload_n 1, 1) := by decide +kernel
theorem dX6_drop_7 : decode cX6_drop 7 = .ok (.aload_n 0, 1) := by decide +kernel
theorem dX6_drop_8 : decode cX6_drop 8 = .ok (.getfield 19, 3) := by decide +kernel
theorem dX6_drop_11 : decode cX6_drop 11 = .ok (.invokestatic 27, 3) := by decide +kernel
theorem dX6_drop_14 : decode cX6_drop 14 = .ok (.invokestatic 7, 3) := by decide +kernel
theorem dX6_drop_17 : decode cX6_drop 17 = .ok (.isub, 1) := by decide +kernel
theorem dX6_drop_18 : decode cX6_drop 18 = .ok (.putfield 19, 3) := by decide +kernel
theorem dX6_drop_21 : decode cX6_drop 21 = .ok (.return_, 1) := by decide +kernel
theorem dX6_clear_0 : decode cX6_clear 0 = .ok (.aload_n 0, 1) := by decide +kernel
theorem dX6_clear_1 : decode cX6_clear 1 = .ok (.iconst 0, 1) := by decide +kernel
theorem dX6_clear_2 : decode cX6_clear 2 = .ok (.putfield 19, 3) := by decide +kernel
theorem dX6_clear_5 : decode cX6_clear 5 = .ok (.return_, 1) := by decide +kernel
theorem dX6_take_0 : decode cX6_take 0 = .ok (.aload_n 1, 1) := by decide +kernel
theorem dX6_take_1 : decode cX6_take 1 = .ok (.getfield 19, 3) := by decide +kernel
theorem dX6_take_4 : decode cX6_take 4 = .ok (.aload_n 1, 1) := by decide +kernel
theorem dX6_take_5 : decode cX6_take 5 = .ok (.getfield 13, 3) := by decide +kernel
theorem dX6_take_8 : decode cX6_take 8 = .ok (.arraylength, 1) := by decide +kernel
theorem dX6_take_9 : decode cX6_take 9 = .ok (.aload_n 0, 1) := by decide +kernel
theorem dX6_take_10 : decode cX6_take 10 = .ok (.getfield 13, 3) := by decide +kernel
theorem dX6_take_13 : decode cX6_take 13 = .ok (.arraylength, 1) := by decide +kernel
theorem dX6_take_14 : decode cX6_take 14 = .ok (.invokestatic 27, 3) := by decide +kernel
theorem dX6_take_17 : decode cX6_take 17 = .ok (.invokestatic 27, 3) := by decide +kernel
theorem dX6_take_20 : decode cX6_take 20 = .ok (.istore_n 2, 1) := by decide +kernel
theorem dX6_take_21 : decode cX6_take 21 = .ok (.aload_n 1, 1) := by decide +kernel
theorem dX6_take_22 : decode cX6_take 22 = .ok (.getfield 13, 3) := by decide +kernel
theorem dX6_take_25 : decode cX6_take 25 = .ok (.iconst 0, 1) := by decide +kernel
theorem dX6_take_26 : decode cX6_take 26 = .ok (.aload_n 0, 1) := by decide +kernel
theorem dX6_take_27 : decode cX6_take 27 = .ok (.getfield 13, 3) := by decide +kernel
theorem dX6_take_30 : decode cX6_take 30 = .ok (.iconst 0, 1) := by decide +kernel
theorem dX6_take_31 : decode cX6_take 31 = .ok (.iload_n 2, 1) := by decide +kernel
theorem dX6_take_32 : decode cX6_take 32 = .ok (.invokestatic 30, 3) := by decide +kernel
theorem dX6_take_35 : decode cX6_take 35 = .ok (.aload_n 0, 1) := by decide +kernel
theorem dX6_take_36 : decode cX6_take 36 = .ok (.iload_n 2, 1) := by decide +kernel
theorem dX6_take_37 : decode cX6_take 37 = .ok (.putfield 19, 3) := by decide +kernel
theorem dX6_take_40 : decode cX6_take 40 = .ok (.return_, 1) := by decide +kernel
theorem dX6_same_0 : decode cX6_same 0 = .ok (.aload_n 0, 1) := by decide +kernel
theorem dX6_same_1 : decode cX6_same 1 = .ok (.getfield 19, 3) := by decide +kernel
theorem dX6_same_4 : decode cX6_same 4 = .ok (.aload_n 1, 1) := by decide +kernel
theorem dX6_same_5 : decode cX6_same 5 = .ok (.getfield 19, 3) := by decide +kernel
theorem dX6_same_8 : decode cX6_same 8 = .ok (.if_icmp .eq 5, 3) := by decide +kernel
theorem dX6_same_11 : decode cX6_same 11 = .ok (.iconst 0, 1) := by decide +kernel
theorem dX6_same_12 : decode cX6_same 12 = .ok (.ireturn, 1) := by decide +kernel
theorem dX6_same_13 : decode cX6_same 13 = .ok (.iconst 0, 1) := by decide +kernel
theorem dX6_same_14 : decode cX6_same 14 = .ok (.istore_n 2, 1) := by decide +kernel
theorem dX6_same_15 : decode cX6_same 15 = .ok (.iload_n 2, 1) := by decide +kernel
theorem dX6_same_16 : decode cX6_same 16 = .ok (.aload_n 0, 1) := by decide +kernel
theorem dX6_same_17 : decode cX6_same 17 = .ok (.getfield 19, 3) := by decide +kernel
theorem dX6_same_20 : decode cX6_same 20 = .ok (.if_icmp .ge 24, 3) := by decide +kernel
theorem dX6_same_23 : decode cX6_same 23 = .ok (.aload_n 0, 1) := by decide +kernel
theorem dX6_same_24 : decode cX6_same 24 = .ok (.iload_n 2, 1) := by decide +kernel
theorem dX6_same_25 : decode cX6_same 25 = .ok (.invokevirtual 36, 3) := by decide +kernel
theorem dX6_same_28 : decode cX6_same 28 = .ok (.aload_n 1, 1) := by decide +kernel
theorem dX6_same_29 : decode cX6_same 29 = .ok (.iload_n 2, 1) := by decide +kernel
theorem dX6_same_30 : decode cX6_same 30 = .ok (.invokevirtual 36, 3) := by decide +kernel
theorem dX6_same_33 : decode cX6_same 33 = .ok (.if_icmp .eq 5, 3) := by decide +kernel
theorem dX6_same_36 : decode cX6_same 36 = .ok (.iconst 0, 1) := by decide +kernel
theorem dX6_same_37 : decode cX6_same 37 = .ok (.ireturn, 1) := by decide +kernel
theorem dX6_same_38 : decode cX6_same 38 = .ok (.iinc 2 1, 3) := by decide +kernel
theorem dX6_same_41 : decode cX6_same 41 = .ok (.goto (-26), 3) := by decide +kernel
theorem dX6_same_44 : decode cX6_same 44 = .ok (.iconst 1, 1) := by decide +kernel
theorem dX6_same_45 : decode cX6_same 45 = .ok (.ireturn, 1) := by decide +kernel
theorem dX7_init_0 : decode cX7_init 0 = .ok (.aload_n 0, 1) := by decide +kernel
theorem dX7_init_1 : decode cX7_init 1 = .ok (.invokespecial 3, 3) := by decide +kernel
theorem dX7_init_4 : decode cX7_init 4 = .ok (.aload_n 0, 1) := by decide +kernel
theorem dX7_init_5 : decode cX7_init 5 = .ok (.new 9, 3) := by decide +kernel
theorem dX7_init_8 : decode cX7_init 8 = .ok (.dup, 1) := by decide +kernel
theorem dX7_init_9 : decode cX7_init 9 = .ok (.invokespecial 11, 3) := by decide +kernel
theorem dX7_init_12 : decode cX7_init 12 = .ok (.putfield 12, 3) := by decide +kernel
theorem dX7_init_15 : decode cX7_init 15 = .ok (.aload_n 0, 1) := by decide +kernel
theorem dX7_init_16 : decode cX7_init 16 = .ok (.new 18, 3) := by decide +kernel
theorem dX7_init_19 : decode cX7_init 19 = .ok (.dup, 1) := by decide +kernel
theorem dX7_init_20 : decode cX7_init 20 = .ok (.sipush 400, 3) := by decide +kernel
theorem dX7_init_23 : decode cX7_init 23 = .ok (.invokespecial 20, 3) := by decide +kernel
theorem dX7_init_26 : decode cX7_init 26 = .ok (.putfield 23, 3) := by decide +kernel
theorem dX7_init_29 : decode cX7_init 29 = .ok (.aload_n 0, 1) := by decide +kernel
theorem dX7_init_30 : decode cX7_init 30 = .ok (.new 27, 3) := by decide +kernel
theorem dX7_init_33 : decode cX7_init 33 = .ok (.dup, 1) := by decide +kernel
theorem dX7_init_34 : decode cX7_init 34 = .ok (.invokespecial 29, 3) := by decide +kernel
theorem dX7_init_37 : decode cX7_init 37 = .ok (.putfield 30, 3) := by decide +kernel
theorem dX7_init_40 : decode cX7_init 40 = .ok (.aload_n 0, 1) := by decide +kernel
theorem dX7_init_41 : decode cX7_init 41 = .ok (.new 18, 3) := by decide +kernel
theorem dX7_init_44 : decode cX7_init 44 = .ok (.dup, 1) := by decide +kernel
theorem dX7_init_45 : decode cX7_init 45 = .ok (.sipush 200, 3) := by decide +kernel
theorem dX7_init_48 : decode cX7_init 48 = .ok (.invokespecial 20, 3) := by decide +kernel
theorem dX7_init_51 : decode cX7_init 51 = .ok (.putfield 34, 3) := by decide +kernel
theorem dX7_init_54 : decode cX7_init 54 = .ok (.return_, 1) := by decide +kernel
theorem dX7_take_0 : decode cX7_take 0 = .ok (.aload_n 0, 1) := by decide +kernel
theorem dX7_take_1 : decode cX7_take 1 = .ok (.aload_n 1, 1) := by decide +kernel
theorem dX7_take_2 : decode cX7_take 2 = .ok (.invokevirtual 37, 3) := by decide +kernel
theorem dX7_take_5 : decode cX7_take 5 = .ok (.aload_n 0, 1) := by decide +kernel
theorem dX7_take_6 : decode cX7_take 6 = .ok (.getfield 12, 3) := by decide +kernel
theorem dX7_take_9 : decode cX7_take 9 = .ok (.aload_n 1, 1) := by decide +kernel
theorem dX7_take_10 : decode cX7_take 10 = .ok (.getfield 12, 3) := by decide +kernel
theorem dX7_take_13 : decode cX7_take 13 = .ok (.invokevirtual 41, 3) := by decide +kernel
theorem dX7_take_16 : decode cX7_take 16 = .ok (.aload_n 0, 1) := by decide +kernel
theorem dX7_take_17 : decode cX7_take 17 = .ok (.getfield 23, 3) := by decide +kernel
theorem dX7_take_20 : decode cX7_take 20 = .ok (.aload_n 1, 1) := by decide +kernel
theorem dX7_take_21 : decode cX7_take 21 = .ok (.getfield 23, 3) := by decide +kernel
theorem dX7_take_24 : decode cX7_take 24 = .ok (.invokevirtual 45, 3) := by decide +kernel
theorem dX7_take_27 : decode cX7_take 27 = .ok (.aload_n 0, 1) := by decide +kernel
theorem dX7_take_28 : decode cX7_take 28 = .ok (.getfield 30, 3) := by decide +kernel
theorem dX7_take_31 : decode cX7_take 31 = .ok (.aload_n 1, 1) := by decide +kernel
theorem dX7_take_32 : decode cX7_take 32 = .ok (.getfield 30, 3) := by decide +kernel
theorem dX7_take_35 : decode cX7_take 35 = .ok (.invokevirtual 48, 3) := by decide +kernel
theorem dX7_take_38 : decode cX7_take 38 = .ok (.aload_n 0, 1) := by decide +kernel
theorem dX7_take_39 : decode cX7_take 39 = .ok (.getfield 34, 3) := by decide +kernel
theorem dX7_take_42 : decode cX7_take 42 = .ok (.aload_n 1, 1) := by decide +kernel
theorem dX7_take_43 : decode cX7_take 43 = .ok (.getfield 34, 3) := by decide +kernel
theorem dX7_take_46 : decode cX7_take 46 = .ok (.invokevirtual 45, 3) := by decide +kernel
theorem dX7_take_49 : decode cX7_take 49 = .ok (.return_, 1) := by decide +kernel
theorem dX7_takeSettings_0 : decode cX7_takeSettings 0 = .ok (.aload_n 0, 1) := by decide +kernel
theorem dX7_takeSettings_1 : decode cX7_takeSettings 1 = .ok (.aload_n 1, 1) := by decide +kernel
theorem dX7_takeSettings_2 : decode cX7_takeSettings 2 = .ok (.getfield 51, 3) := by decide +kernel
theorem dX7_takeSettings_5 : decode cX7_takeSettings 5 = .ok (.putfield 51, 3) := by decide +kernel
theorem dX7_takeSettings_8 : decode cX7_takeSettings 8 = .ok (.aload_n 0, 1) := by decide +kernel
theorem dX7_takeSettings_9 : decode cX7_takeSettings 9 = .ok (.aload_n 1, 1) := by decide +kernel
theorem dX7_takeSettings_10 : decode cX7_takeSettings 10 = .ok (.getfield 55, 3) := by decide +kernel
theorem dX7_takeSettings_13 : decode cX7_takeSettings 13 = .ok (.putfield 55, 3) := by decide +kernel
theorem dX7_takeSettings_16 : decode cX7_takeSettings 16 = .ok (.aload_n 0, 1) := by decide +kernel
theorem dX7_takeSettings_17 : decode cX7_takeSettings 17 = .ok (.aload_n 1, 1) := by decide +kernel
theorem dX7_takeSettings_18 : decode cX7_takeSettings 18 = .ok (.getfield 59, 3) := by decide +kernel
theorem dX7_takeSettings_21 : decode cX7_takeSettings 21 = .ok (.putfield 59, 3) := by decide +kernel
theorem dX7_takeSettings_24 : decode cX7_takeSettings 24 = .ok (.aload_n 0, 1) := by decide +kernel
theorem dX7_takeSettings_25 : decode cX7_takeSettings 25 = .ok (.aload_n 1, 1) := by decide +kernel
theorem dX7_takeSettings_26 : decode cX7_takeSettings 26 = .ok (.getfield 62, 3) := by decide +kernel
theorem dX7_takeSettings_29 : decode cX7_takeSettings 29 = .ok (.putfield 62, 3) := by decide +kernel
theorem dX7_takeSettings_32 : decode cX7_takeSettings 32 = .ok (.return_, 1) := by decide +kernel
theorem dX7_increase_0 : decode cX7_increase 0 = .ok (.iconst 0, 1) := by decide +kernel
theorem dX7_increase_1 : decode cX7_increase 1 = .ok (.istore 4, 2) := by decide +kernel
theorem dX7_increase_3 : decode cX7_increase 3 = .ok (.iload 4, 2) := by decide +kernel
theorem dX7_increase_5 : decode cX7_increase 5 = .ok (.aload_n 0, 1) := by decide +kernel
theorem dX7_increase_6 : decode cX7_increase 6 = .ok (.getfield 51, 3) := by decide +kernel
theorem dX7_increase_9 : decode cX7_increase 9 = .ok (.if_icmp .gt 54, 3) := by decide +kernel
theorem dX7_increase_12 : decode cX7_increase 12 = .ok (.iload 4, 2) := by decide +kernel
theorem dX7_increase_14 : decode cX7_increase 14 = .ok (.iload_n 2, 1) := by decide +kernel
theorem dX7_increase_15 : decode cX7_increase 15 = .ok (.if_icmp .gt 48, 3) := by decide +kernel
theorem dX7_increase_18 : decode cX7_increase 18 = .ok (.aload_n 0, 1) := by decide +kernel
theorem dX7_increase_19 : decode cX7_increase 19 = .ok (.getfield 12, 3) := by decide +kernel
theorem dX7_increase_22 : decode cX7_increase 22 = .ok (.aload_n 1, 1) := by decide +kernel
theorem dX7_increase_23 : decode cX7_increase 23 = .ok (.iload_n 2, 1) := by decide +kernel
theorem dX7_increase_24 : decode cX7_increase 24 = .ok (.iload 4, 2) := by decide +kernel
theorem dX7_increase_26 : decode cX7_increase 26 = .ok (.invokestatic 65, 3) := by decide +kernel
theorem dX7_increase_29 : decode cX7_increase 29 = .ok (.invokevirtual 69, 3) := by decide +kernel
theorem dX7_increase_32 : decode cX7_increase 32 = .ok (.istore 5, 2) := by decide +kernel
theorem dX7_increase_34 : decode cX7_increase 34 = .ok (.iload 5, 2) := by decide +kernel
theorem dX7_increase_36 : decode cX7_increase 36 = .ok (.ifCond .lt 21, 3) := by decide +kernel
theorem dX7_increase_39 : decode cX7_increase 39 = .ok (.aload_n 0, 1) := by decide +kernel
theorem dX7_increase_40 : decode cX7_increase 40 = .ok (.getfield 12, 3) := by decide +kernel
theorem dX7_increase_43 : decode cX7_increase 43 = .ok (.iload 5, 2) := by decide +kernel
theorem dX7_increase_45 : decode cX7_increase 45 = .ok (.iload_n 3, 1) := by decide +kernel
theorem dX7_increase_46 : decode cX7_increase 46 = .ok (.aload_n 0, 1) := by decide +kernel
theorem dX7_increase_47 : decode cX7_increase 47 = .ok (.getfield 59, 3) := by decide +kernel
theorem dX7_increase_50 : decode cX7_increase 50 = .ok (.aload_n 0, 1) := by decide +kernel
theorem dX7_increase_51 : decode cX7_increase 51 = .ok (.getfield 62, 3) := by decide +kernel
theorem dX7_increase_54 : decode cX7_increase 54 = .ok (.invokevirtual 73, 3) := by decide +kernel
theorem dX7_increase_57 : decode cX7_increase 57 = .ok (.iinc 4 1, 3) := by decide +kernel
theorem dX7_increase_60 : decode cX7_increase 60 = .ok (.goto (-57), 3) := by decide +kernel
theorem dX7_increase_63 : decode cX7_increase 63 = .ok (.return_, 1) := by decide +kernel
theorem dX8_init_0 : decode cX8_init 0 = .ok (.aload_n 0, 1) := by decide +kernel
theorem dX8_init_1 : decode cX8_init 1 = .ok (.invokespecial 3, 3) := by decide +kernel
theorem dX8_init_4 : decode cX8_init 4 = .ok (.aload_n 0, 1) := by decide +kernel
theorem dX8_init_5 : decode cX8_init 5 = .ok (.new 9, 3) := by decide +kernel
theorem dX8_init_8 : decode cX8_init 8 = .ok (.dup, 1) := by decide +kernel
theorem dX8_init_9 : decode cX8_init 9 = .ok (.invokespecial 11, 3) := by decide +kernel
theorem dX8_init_12 : decode cX8_init 12 = .ok (.putfield 12, 3) := by decide +kernel
theorem dX8_init_15 : decode cX8_init 15 = .ok (.aload_n 0, 1) := by decide +kernel
theorem dX8_init_16 : decode cX8_init 16 = .ok (.new 9, 3) := by decide +kernel
theorem dX8_init_19 : decode cX8_init 19 = .ok (.dup, 1) := by decide +kernel
theorem dX8_init_20 : decode cX8_init 20 = .ok (.invokespecial 11, 3) := by decide +kernel
theorem dX8_init_23 : decode cX8_init 23 = .ok (.putfield 16, 3) := by decide +kernel
theorem dX8_init_26 : decode cX8_init 26 = .ok (.aload_n 0, 1) := by decide +kernel
theorem dX8_init_27 : decode cX8_init 27 = .ok (.iconst 4, 1) := by decide +kernel
theorem dX8_init_28 : decode cX8_init 28 = .ok (.anewarray 9, 3) := by decide +kernel
theorem dX8_init_31 : decode cX8_init 31 = .ok (.putfield 19, 3) := by decide +kernel
theorem dX8_init_34 : decode cX8_init 34 = .ok (.iconst 0, 1) := by decide +kernel
theorem dX8_init_35 : decode cX8_init 35 = .ok (.istore_n 2, 1) := by decide +kernel
theorem dX8_init_36 : decode cX8_init 36 = .ok (.iload_n 2, 1) := by decide +kernel
theorem dX8_init_37 : decode cX8_init 37 = .ok (.aload_n 0, 1) := by decide +kernel
theorem dX8_init_38 : decode cX8_init 38 = .ok (.getfield 19, 3) := by decide +kernel
theorem dX8_init_41 : decode cX8_init 41 = .ok (.arraylength, 1) := by decide +kernel
theorem dX8_init_42 : decode cX8_init 42 = .ok (.if_icmp .ge 22, 3) := by decide +kernel
theorem dX8_init_45 : decode cX8_init 45 = .ok (.aload_n 0, 1) := by decide +kernel
theorem dX8_init_46 : decode cX8_init 46 = .ok (.getfield 19, 3) := by decide +kernel
theorem dX8_init_49 : decode cX8_init 49 = .ok (.iload_n 2, 1) := by decide +kernel
theorem dX8_init_50 : decode cX8_init 50 = .ok (.new 9, 3) := by decide +kernel
theorem dX8_init_53 : decode cX8_init 53 = .ok (.dup, 1) := by decide +kernel
theorem dX8_init_54 : decode cX8_init 54 = .ok (.invokespecial 11, 3) := by decide +kernel
theorem dX8_init_57 : decode cX8_init 57 = .ok (.aastore, 1) := by decide +kernel
theorem dX8_init_58 : decode cX8_init 58 = .ok (.iinc 2 1, 3) := by decide +kernel
theorem dX8_init_61 : decode cX8_init 61 = .ok (.goto (-25), 3) := by decide +kernel
theorem dX8_init_64 : decode cX8_init 64 = .ok (.aload_n 0, 1) := by decide +kernel
theorem dX8_init_65 : decode cX8_init 65 = .ok (.iconst 0, 1) := by decide +kernel
theorem dX8_init_66 : decode cX8_init 66 = .ok (.putfield 23, 3) := by decide +kernel
theorem dX8_init_69 : decode cX8_init 69 = .ok (.aload_n 0, 1) := by decide +kernel
theorem dX8_init_70 : decode cX8_init 70 = .ok (.new 27, 3) := by decide +kernel
theorem dX8_init_73 : decode cX8_init 73 = .ok (.dup, 1) := by decide +kernel
theorem dX8_init_74 : decode cX8_init 74 = .ok (.sipush 200, 3) := by decide +kernel
theorem dX8_init_77 : decode cX8_init 77 = .ok (.invokespecial 29, 3) := by decide +kernel
theorem dX8_init_80 : decode cX8_init 80 = .ok (.putfield 32, 3) := by decide +kernel
theorem dX8_init_83 : decode cX8_init 83 = .ok (.aload_n 0, 1) := by decide +kernel
theorem dX8_init_84 : decode cX8_init 84 = .ok (.new 36, 3) := by decide +kernel
theorem dX8_init_87 : decode cX8_init 87 = .ok (.dup, 1) := by decide +kernel
theorem dX8_init_88 : decode cX8_init 88 = .ok (.invokespecial 38, 3) := by decide +kernel
theorem dX8_init_91 : decode cX8_init 91 = .ok (.putfield 39, 3) := by decide +kernel
theorem dX8_init_94 : decode cX8_init 94 = .ok (.aload_n 0, 1) := by decide +kernel
theorem dX8_init_95 : decode cX8_init 95 = .ok (.new 43, 3) := by decide +kernel
theorem dX8_init_98 : decode cX8_init 98 = .ok (.dup, 1) := by decide +kernel
theorem dX8_init_99 : decode cX8_init 99 = .ok (.invokespecial 45, 3) := by decide +kernel
theorem dX8_init_102 : decode cX8_init 102 = .ok (.putfield 46, 3) := by decide +kernel
theorem dX8_init_105 : decode cX8_init 105 = .ok (.aload_n 0, 1) := by decide +kernel
theorem dX8_init_106 : decode cX8_init 106 = .ok (.new 50, 3) := by decide +kernel
theorem dX8_init_109 : decode cX8_init 109 = .ok (.dup, 1) := by decide +kernel
theorem dX8_init_110 : decode cX8_init 110 = .ok (.invokespecial 52, 3) := by decide +kernel
theorem dX8_init_113 : decode cX8_init 113 = .ok (.putfield 53, 3) := by decide +kernel
theorem dX8_init_116 : decode cX8_init 116 = .ok (.aload_n 0, 1) := by decide +kernel
theorem dX8_init_117 : decode cX8_init 117 = .ok (.new 57, 3) := by decide +kernel
theorem dX8_init_120 : decode cX8_init 120 = .ok (.dup, 1) := by decide +kernel
theorem dX8_init_121 : decode cX8_init 121 = .ok (.invokespecial 59, 3) := by decide +kernel
end
section
theorem dX8_init_124 : decode cX8_init 124 = .ok (.putfield 60, 3) := by decide +kernel
theorem dX8_init_127 : decode cX8_init 127 = .ok (.aload_n 0, 1) := by decide +kernel
theorem dX8_init_128 : decode cX8_init 128 = .ok (.getfield 12, 3) := by decide +kernel
theorem dX8_init_131 : decode cX8_init 131 = .ok (.iconst 0, 1) := by decide +kernel
theorem dX8_init_132 : decode cX8_init 132 = .ok (.iload_n 1, 1) := by decide +kernel
theorem dX8_init_133 : decode cX8_init 133 = .ok (.iconst 3, 1) := by decide +kernel
theorem dX8_init_134 : decode cX8_init 134 = .ok (.invokestatic 64, 3) := by decide +kernel
theorem dX8_init_137 : decode cX8_init 137 = .ok (.invokestatic 70, 3) := by decide +kernel
theorem dX8_init_140 : decode cX8_init 140 = .ok (.putfield 73, 3) := by decide +kernel
theorem dX8_init_143 : decode cX8_init 143 = .ok (.aload_n 0, 1) := by decide +kernel
theorem dX8_init_144 : decode cX8_init 144 = .ok (.getfield 12, 3) := by decide +kernel
theorem dX8_init_147 : decode cX8_init 147 = .ok (.iconst 1, 1) := by decide +kernel
theorem dX8_init_148 : decode cX8_init 148 = .ok (.putfield 76, 3) := by decide +kernel
theorem dX8_init_151 : decode cX8_init 151 = .ok (.aload_n 0, 1) := by decide +kernel
theorem dX8_init_152 : decode cX8_init 152 = .ok (.getfield 12, 3) := by decide +kernel
theorem dX8_init_155 : decode cX8_init 155 = .ok (.sipush 200, 3) := by decide +kernel
theorem dX8_init_158 : decode cX8_init 158 = .ok (.putfield 79, 3) := by decide +kernel
theorem dX8_init_161 : decode cX8_init 161 = .ok (.return_, 1) := by decide +kernel
theorem dX8_setOrder_0 : decode cX8_setOrder 0 = .ok (.iload_n 1, 1) := by decide +kernel
theorem dX8_setOrder_1 : decode cX8_setOrder 1 = .ok (.ifCond .lt 8, 3) := by decide +kernel
theorem dX8_setOrder_4 : decode cX8_setOrder 4 = .ok (.iload_n 1, 1) := by decide +kernel
theorem dX8_setOrder_5 : decode cX8_setOrder 5 = .ok (.iconst 3, 1) := by decide +kernel
theorem dX8_setOrder_6 : decode cX8_setOrder 6 = .ok (.if_icmp .le 5, 3) := by decide +kernel
theorem dX8_setOrder_9 : decode cX8_setOrder 9 = .ok (.iconst (-1), 1) := by decide +kernel
theorem dX8_setOrder_10 : decode cX8_setOrder 10 = .ok (.ireturn, 1) := by decide +kernel
theorem dX8_setOrder_11 : decode cX8_setOrder 11 = .ok (.aload_n 0, 1) := by decide +kernel
theorem dX8_setOrder_12 : decode cX8_setOrder 12 = .ok (.invokevirtual 82, 3) := by decide +kernel
theorem dX8_setOrder_15 : decode cX8_setOrder 15 = .ok (.aload_n 0, 1) := by decide +kernel
theorem dX8_setOrder_16 : decode cX8_setOrder 16 = .ok (.getfield 12, 3) := by decide +kernel
theorem dX8_setOrder_19 : decode cX8_setOrder 19 = .ok (.getfield 73, 3) := by decide +kernel
theorem dX8_setOrder_22 : decode cX8_setOrder 22 = .ok (.istore_n 2, 1) := by decide +kernel
theorem dX8_setOrder_23 : decode cX8_setOrder 23 = .ok (.aload_n 0, 1) := by decide +kernel
theorem dX8_setOrder_24 : decode cX8_setOrder 24 = .ok (.getfield 12, 3) := by decide +kernel
theorem dX8_setOrder_27 : decode cX8_setOrder 27 = .ok (.iload_n 1, 1) := by decide +kernel
theorem dX8_setOrder_28 : decode cX8_setOrder 28 = .ok (.putfield 73, 3) := by decide +kernel
theorem dX8_setOrder_31 : decode cX8_setOrder 31 = .ok (.aload_n 0, 1) := by decide +kernel
theorem dX8_setOrder_32 : decode cX8_setOrder 32 = .ok (.getfield 12, 3) := by decide +kernel
theorem dX8_setOrder_35 : decode cX8_setOrder 35 = .ok (.getfield 85, 3) := by decide +kernel
theorem dX8_setOrder_38 : decode cX8_setOrder 38 = .ok (.invokevirtual 89, 3) := by decide +kernel
theorem dX8_setOrder_41 : decode cX8_setOrder 41 = .ok (.iload_n 2, 1) := by decide +kernel
theorem dX8_setOrder_42 : decode cX8_setOrder 42 = .ok (.ireturn, 1) := by decide +kernel
theorem dX8_setExclusion_0 : decode cX8_setExclusion 0 = .ok (.aload_n 0, 1) := by decide +kernel
theorem dX8_setExclusion_1 : decode cX8_setExclusion 1 = .ok (.invokevirtual 82, 3) := by decide +kernel
theorem dX8_setExclusion_4 : decode cX8_setExclusion 4 = .ok (.aload_n 0, 1) := by decide +kernel
theorem dX8_setExclusion_5 : decode cX8_setExclusion 5 = .ok (.getfield 12, 3) := by decide +kernel
theorem dX8_setExclusion_8 : decode cX8_setExclusion 8 = .ok (.getfield 94, 3) := by decide +kernel
theorem dX8_setExclusion_11 : decode cX8_setExclusion 11 = .ok (.ifCond .eq 7, 3) := by decide +kernel
theorem dX8_setExclusion_14 : decode cX8_setExclusion 14 = .ok (.iconst 1, 1) := by decide +kernel
theorem dX8_setExclusion_15 : decode cX8_setExclusion 15 = .ok (.goto 4, 3) := by decide +kernel
theorem dX8_setExclusion_18 : decode cX8_setExclusion 18 = .ok (.iconst 0, 1) := by decide +kernel
theorem dX8_setExclusion_19 : decode cX8_setExclusion 19 = .ok (.istore_n 2, 1) := by decide +kernel
theorem dX8_setExclusion_20 : decode cX8_setExclusion 20 = .ok (.aload_n 0, 1) := by decide +kernel
theorem dX8_setExclusion_21 : decode cX8_setExclusion 21 = .ok (.getfield 12, 3) := by decide +kernel
theorem dX8_setExclusion_24 : decode cX8_setExclusion 24 = .ok (.iload_n 1, 1) := by decide +kernel
theorem dX8_setExclusion_25 : decode cX8_setExclusion 25 = .ok (.putfield 94, 3) := by decide +kernel
theorem dX8_setExclusion_28 : decode cX8_setExclusion 28 = .ok (.iload_n 2, 1) := by decide +kernel
theorem dX8_setExclusion_29 : decode cX8_setExclusion 29 = .ok (.ireturn, 1) := by decide +kernel
theorem dX8_setStep_0 : decode cX8_setStep 0 = .ok (.iload_n 1, 1) := by decide +kernel
theorem dX8_setStep_1 : decode cX8_setStep 1 = .ok (.iconst 1, 1) := by decide +kernel
theorem dX8_setStep_2 : decode cX8_setStep 2 = .ok (.if_icmp .lt 9, 3) := by decide +kernel
theorem dX8_setStep_5 : decode cX8_setStep 5 = .ok (.iload_n 1, 1) := by decide +kernel
theorem dX8_setStep_6 : decode cX8_setStep 6 = .ok (.bipush 10, 2) := by decide +kernel
theorem dX8_setStep_8 : decode cX8_setStep 8 = .ok (.if_icmp .le 5, 3) := by decide +kernel
theorem dX8_setStep_11 : decode cX8_setStep 11 = .ok (.iconst (-1), 1) := by decide +kernel
theorem dX8_setStep_12 : decode cX8_setStep 12 = .ok (.ireturn, 1) := by decide +kernel
theorem dX8_setStep_13 : decode cX8_setStep 13 = .ok (.aload_n 0, 1) := by decide +kernel
theorem dX8_setStep_14 : decode cX8_setStep 14 = .ok (.invokevirtual 82, 3) := by decide +kernel
theorem dX8_setStep_17 : decode cX8_setStep 17 = .ok (.aload_n 0, 1) := by decide +kernel
theorem dX8_setStep_18 : decode cX8_setStep 18 = .ok (.getfield 12, 3) := by decide +kernel
theorem dX8_setStep_21 : decode cX8_setStep 21 = .ok (.getfield 76, 3) := by decide +kernel
theorem dX8_setStep_24 : decode cX8_setStep 24 = .ok (.istore_n 2, 1) := by decide +kernel
theorem dX8_setStep_25 : decode cX8_setStep 25 = .ok (.aload_n 0, 1) := by decide +kernel
theorem dX8_setStep_26 : decode cX8_setStep 26 = .ok (.getfield 12, 3) := by decide +kernel
theorem dX8_setStep_29 : decode cX8_setStep 29 = .ok (.iload_n 1, 1) := by decide +kernel
theorem dX8_setStep_30 : decode cX8_setStep 30 = .ok (.putfield 76, 3) := by decide +kernel
theorem dX8_setStep_33 : decode cX8_setStep 33 = .ok (.iload_n 2, 1) := by decide +kernel
theorem dX8_setStep_34 : decode cX8_setStep 34 = .ok (.ireturn, 1) := by decide +kernel
theorem dX8_setLimit_0 : decode cX8_setLimit 0 = .ok (.iload_n 1, 1) := by decide +kernel
theorem dX8_setLimit_1 : decode cX8_setLimit 1 = .ok (.bipush 20, 2) := by decide +kernel
theorem dX8_setLimit_3 : decode cX8_setLimit 3 = .ok (.if_icmp .lt 10, 3) := by decide +kernel
theorem dX8_setLimit_6 : decode cX8_setLimit 6 = .ok (.iload_n 1, 1) := by decide +kernel
theorem dX8_setLimit_7 : decode cX8_setLimit 7 = .ok (.sipush 1000, 3) := by decide +kernel
theorem dX8_setLimit_10 : decode cX8_setLimit 10 = .ok (.if_icmp .le 5, 3) := by decide +kernel
theorem dX8_setLimit_13 : decode cX8_setLimit 13 = .ok (.iconst (-1), 1) := by decide +kernel
theorem dX8_setLimit_14 : decode cX8_setLimit 14 = .ok (.ireturn, 1) := by decide +kernel
theorem dX8_setLimit_15 : decode cX8_setLimit 15 = .ok (.aload_n 0, 1) := by decide +kernel
theorem dX8_setLimit_16 : decode cX8_setLimit 16 = .ok (.invokevirtual 82, 3) := by decide +kernel
theorem dX8_setLimit_19 : decode cX8_setLimit 19 = .ok (.aload_n 0, 1) := by decide +kernel
theorem dX8_setLimit_20 : decode cX8_setLimit 20 = .ok (.getfield 12, 3) := by decide +kernel
theorem dX8_setLimit_23 : decode cX8_setLimit 23 = .ok (.getfield 79, 3) := by decide +kernel
theorem dX8_setLimit_26 : decode cX8_setLimit 26 = .ok (.istore_n 2, 1) := by decide +kernel
theorem dX8_setLimit_27 : decode cX8_setLimit 27 = .ok (.aload_n 0, 1) := by decide +kernel
theorem dX8_setLimit_28 : decode cX8_setLimit 28 = .ok (.getfield 12, 3) := by decide +kernel
theorem dX8_setLimit_31 : decode cX8_setLimit 31 = .ok (.iload_n 1, 1) := by decide +kernel
theorem dX8_setLimit_32 : decode cX8_setLimit 32 = .ok (.putfield 79, 3) := by decide +kernel
theorem dX8_setLimit_35 : decode cX8_setLimit 35 = .ok (.iload_n 2, 1) := by decide +kernel
theorem dX8_setLimit_36 : decode cX8_setLimit 36 = .ok (.ireturn, 1) := by decide +kernel
theorem dX8_forget_0 : decode cX8_forget 0 = .ok (.aload_n 0, 1) := by decide +kernel
theorem dX8_forget_1 : decode cX8_forget 1 = .ok (.invokevirtual 82, 3) := by decide +kernel
theorem dX8_forget_4 : decode cX8_forget 4 = .ok (.aload_n 0, 1) := by decide +kernel
theorem dX8_forget_5 : decode cX8_forget 5 = .ok (.invokevirtual 98, 3) := by decide +kernel
theorem dX8_forget_8 : decode cX8_forget 8 = .ok (.istore_n 1, 1) := by decide +kernel
theorem dX8_forget_9 : decode cX8_forget 9 = .ok (.aload_n 0, 1) := by decide +kernel
theorem dX8_forget_10 : decode cX8_forget 10 = .ok (.getfield 12, 3) := by decide +kernel
theorem dX8_forget_13 : decode cX8_forget 13 = .ok (.getfield 85, 3) := by decide +kernel
theorem dX8_forget_16 : decode cX8_forget 16 = .ok (.invokevirtual 89, 3) := by decide +kernel
theorem dX8_forget_19 : decode cX8_forget 19 = .ok (.iload_n 1, 1) := by decide +kernel
theorem dX8_forget_20 : decode cX8_forget 20 = .ok (.ireturn, 1) := by decide +kernel
theorem dX8_learn_0 : decode cX8_learn 0 = .ok (.aload_n 0, 1) := by decide +kernel
theorem dX8_learn_1 : decode cX8_learn 1 = .ok (.invokevirtual 82, 3) := by decide +kernel
theorem dX8_learn_4 : decode cX8_learn 4 = .ok (.iconst 0, 1) := by decide +kernel
theorem dX8_learn_5 : decode cX8_learn 5 = .ok (.istore_n 1, 1) := by decide +kernel
theorem dX8_learn_6 : decode cX8_learn 6 = .ok (.iload_n 1, 1) := by decide +kernel
theorem dX8_learn_7 : decode cX8_learn 7 = .ok (.aload_n 0, 1) := by decide +kernel
theorem dX8_learn_8 : decode cX8_learn 8 = .ok (.getfield 32, 3) := by decide +kernel
theorem dX8_learn_11 : decode cX8_learn 11 = .ok (.getfield 102, 3) := by decide +kernel
theorem dX8_learn_14 : decode cX8_learn 14 = .ok (.if_icmp .ge 29, 3) := by decide +kernel
theorem dX8_learn_17 : decode cX8_learn 17 = .ok (.aload_n 0, 1) := by decide +kernel
theorem dX8_learn_18 : decode cX8_learn 18 = .ok (.getfield 12, 3) := by decide +kernel
theorem dX8_learn_21 : decode cX8_learn 21 = .ok (.aload_n 0, 1) := by decide +kernel
theorem dX8_learn_22 : decode cX8_learn 22 = .ok (.getfield 32, 3) := by decide +kernel
theorem dX8_learn_25 : decode cX8_learn 25 = .ok (.iload_n 1, 1) := by decide +kernel
theorem dX8_learn_26 : decode cX8_learn 26 = .ok (.aload_n 0, 1) := by decide +kernel
theorem dX8_learn_27 : decode cX8_learn 27 = .ok (.getfield 32, 3) := by decide +kernel
theorem dX8_learn_30 : decode cX8_learn 30 = .ok (.iload_n 1, 1) := by decide +kernel
theorem dX8_learn_31 : decode cX8_learn 31 = .ok (.invokevirtual 105, 3) := by decide +kernel
theorem dX8_learn_34 : decode cX8_learn 34 = .ok (.invokevirtual 109, 3) := by decide +kernel
theorem dX8_learn_37 : decode cX8_learn 37 = .ok (.iinc 1 1, 3) := by decide +kernel
theorem dX8_learn_40 : decode cX8_learn 40 = .ok (.goto (-34), 3) := by decide +kernel
theorem dX8_learn_43 : decode cX8_learn 43 = .ok (.aload_n 0, 1) := by decide +kernel
theorem dX8_learn_44 : decode cX8_learn 44 = .ok (.getfield 12, 3) := by decide +kernel
theorem dX8_learn_47 : decode cX8_learn 47 = .ok (.aload_n 0, 1) := by decide +kernel
theorem dX8_learn_48 : decode cX8_learn 48 = .ok (.getfield 32, 3) := by decide +kernel
theorem dX8_learn_51 : decode cX8_learn 51 = .ok (.aload_n 0, 1) := by decide +kernel
theorem dX8_learn_52 : decode cX8_learn 52 = .ok (.getfield 32, 3) := by decide +kernel
theorem dX8_learn_55 : decode cX8_learn 55 = .ok (.getfield 102, 3) := by decide +kernel
theorem dX8_learn_58 : decode cX8_learn 58 = .ok (.bipush 95, 2) := by decide +kernel
theorem dX8_learn_60 : decode cX8_learn 60 = .ok (.invokevirtual 109, 3) := by decide +kernel
theorem dX8_learn_63 : decode cX8_learn 63 = .ok (.aload_n 0, 1) := by decide +kernel
theorem dX8_learn_64 : decode cX8_learn 64 = .ok (.invokevirtual 98, 3) := by decide +kernel
theorem dX8_learn_67 : decode cX8_learn 67 = .ok (.ireturn, 1) := by decide +kernel
theorem dX8_contexts_0 : decode cX8_contexts 0 = .ok (.aload_n 0, 1) := by decide +kernel
theorem dX8_contexts_1 : decode cX8_contexts 1 = .ok (.getfield 12, 3) := by decide +kernel
theorem dX8_contexts_4 : decode cX8_contexts 4 = .ok (.getfield 85, 3) := by decide +kernel
theorem dX8_contexts_7 : decode cX8_contexts 7 = .ok (.getfield 113, 3) := by decide +kernel
theorem dX8_contexts_10 : decode cX8_contexts 10 = .ok (.ireturn, 1) := by decide +kernel
theorem dX8_count_0 : decode cX8_count 0 = .ok (.iload_n 1, 1) := by decide +kernel
theorem dX8_count_1 : decode cX8_count 1 = .ok (.ifCond .lt 18, 3) := by decide +kernel
theorem dX8_count_4 : decode cX8_count 4 = .ok (.iload_n 1, 1) := by decide +kernel
theorem dX8_count_5 : decode cX8_count 5 = .ok (.iconst 3, 1) := by decide +kernel
theorem dX8_count_6 : decode cX8_count 6 = .ok (.if_icmp .gt 13, 3) := by decide +kernel
theorem dX8_count_9 : decode cX8_count 9 = .ok (.iload_n 2, 1) := by decide +kernel
theorem dX8_count_10 : decode cX8_count 10 = .ok (.ifCond .lt 9, 3) := by decide +kernel
theorem dX8_count_13 : decode cX8_count 13 = .ok (.iload_n 2, 1) := by decide +kernel
theorem dX8_count_14 : decode cX8_count 14 = .ok (.bipush 96, 2) := by decide +kernel
theorem dX8_count_16 : decode cX8_count 16 = .ok (.if_icmp .lt 5, 3) := by decide +kernel
theorem dX8_count_19 : decode cX8_count 19 = .ok (.iconst (-1), 1) := by decide +kernel
theorem dX8_count_20 : decode cX8_count 20 = .ok (.ireturn, 1) := by decide +kernel
theorem dX8_count_21 : decode cX8_count 21 = .ok (.aload_n 0, 1) := by decide +kernel
theorem dX8_count_22 : decode cX8_count 22 = .ok (.iload_n 1, 1) := by decide +kernel
theorem dX8_count_23 : decode cX8_count 23 = .ok (.invokevirtual 116, 3) := by decide +kernel
theorem dX8_count_26 : decode cX8_count 26 = .ok (.istore_n 3, 1) := by decide +kernel
theorem dX8_count_27 : decode cX8_count 27 = .ok (.iload_n 3, 1) := by decide +kernel
theorem dX8_count_28 : decode cX8_count 28 = .ok (.ifCond .ge 8, 3) := by decide +kernel
theorem dX8_count_31 : decode cX8_count 31 = .ok (.bipush (-9), 2) := by decide +kernel
theorem dX8_count_33 : decode cX8_count 33 = .ok (.goto 15, 3) := by decide +kernel
theorem dX8_count_36 : decode cX8_count 36 = .ok (.aload_n 0, 1) := by decide +kernel
theorem dX8_count_37 : decode cX8_count 37 = .ok (.getfield 12, 3) := by decide +kernel
theorem dX8_count_40 : decode cX8_count 40 = .ok (.getfield 85, 3) := by decide +kernel
theorem dX8_count_43 : decode cX8_count 43 = .ok (.iload_n 3, 1) := by decide +kernel
theorem dX8_count_44 : decode cX8_count 44 = .ok (.iload_n 2, 1) := by decide +kernel
theorem dX8_count_45 : decode cX8_count 45 = .ok (.invokevirtual 119, 3) := by decide +kernel
theorem dX8_count_48 : decode cX8_count 48 = .ok (.ireturn, 1) := by decide +kernel
theorem dX8_weight_0 : decode cX8_weight 0 = .ok (.iload_n 1, 1) := by decide +kernel
theorem dX8_weight_1 : decode cX8_weight 1 = .ok (.ifCond .lt 8, 3) := by decide +kernel
theorem dX8_weight_4 : decode cX8_weight 4 = .ok (.iload_n 1, 1) := by decide +kernel
theorem dX8_weight_5 : decode cX8_weight 5 = .ok (.iconst 3, 1) := by decide +kernel
theorem dX8_weight_6 : decode cX8_weight 6 = .ok (.if_icmp .le 5, 3) := by decide +kernel
theorem dX8_weight_9 : decode cX8_weight 9 = .ok (.iconst (-1), 1) := by decide +kernel
theorem dX8_weight_10 : decode cX8_weight 10 = .ok (.ireturn, 1) := by decide +kernel
theorem dX8_weight_11 : decode cX8_weight 11 = .ok (.aload_n 0, 1) := by decide +kernel
theorem dX8_weight_12 : decode cX8_weight 12 = .ok (.iload_n 1, 1) := by decide +kernel
theorem dX8_weight_13 : decode cX8_weight 13 = .ok (.invokevirtual 116, 3) := by decide +kernel
theorem dX8_weight_16 : decode cX8_weight 16 = .ok (.istore_n 2, 1) := by decide +kernel
theorem dX8_weight_17 : decode cX8_weight 17 = .ok (.iload_n 2, 1) := by decide +kernel
theorem dX8_weight_18 : decode cX8_weight 18 = .ok (.ifCond .ge 8, 3) := by decide +kernel
theorem dX8_weight_21 : decode cX8_weight 21 = .ok (.bipush (-9), 2) := by decide +kernel
theorem dX8_weight_23 : decode cX8_weight 23 = .ok (.goto 14, 3) := by decide +kernel
theorem dX8_weight_26 : decode cX8_weight 26 = .ok (.aload_n 0, 1) := by decide +kernel
theorem dX8_weight_27 : decode cX8_weight 27 = .ok (.getfield 12, 3) := by decide +kernel
theorem dX8_weight_30 : decode cX8_weight 30 = .ok (.getfield 85, 3) := by decide +kernel
theorem dX8_weight_33 : decode cX8_weight 33 = .ok (.iload_n 2, 1) := by decide +kernel
theorem dX8_weight_34 : decode cX8_weight 34 = .ok (.invokevirtual 122, 3) := by decide +kernel
theorem dX8_weight_37 : decode cX8_weight 37 = .ok (.ireturn, 1) := by decide +kernel
theorem dX8_price_0 : decode cX8_price 0 = .ok (.iload_n 1, 1) := by decide +kernel
theorem dX8_price_1 : decode cX8_price 1 = .ok (.ifCond .lt 9, 3) := by decide +kernel
theorem dX8_price_4 : decode cX8_price 4 = .ok (.iload_n 1, 1) := by decide +kernel
theorem dX8_price_5 : decode cX8_price 5 = .ok (.bipush 96, 2) := by decide +kernel
theorem dX8_price_7 : decode cX8_price 7 = .ok (.if_icmp .lt 5, 3) := by decide +kernel
theorem dX8_price_10 : decode cX8_price 10 = .ok (.iconst (-1), 1) := by decide +kernel
theorem dX8_price_11 : decode cX8_price 11 = .ok (.ireturn, 1) := by decide +kernel
theorem dX8_price_12 : decode cX8_price 12 = .ok (.aload_n 0, 1) := by decide +kernel
theorem dX8_price_13 : decode cX8_price 13 = .ok (.aload_n 0, 1) := by decide +kernel
theorem dX8_price_14 : decode cX8_price 14 = .ok (.getfield 12, 3) := by decide +kernel
theorem dX8_price_17 : decode cX8_price 17 = .ok (.aload_n 0, 1) := by decide +kernel
theorem dX8_price_18 : decode cX8_price 18 = .ok (.getfield 32, 3) := by decide +kernel
theorem dX8_price_21 : decode cX8_price 21 = .ok (.aload_n 0, 1) := by decide +kernel
theorem dX8_price_22 : decode cX8_price 22 = .ok (.getfield 32, 3) := by decide +kernel
theorem dX8_price_25 : decode cX8_price 25 = .ok (.getfield 102, 3) := by decide +kernel
theorem dX8_price_28 : decode cX8_price 28 = .ok (.iload_n 1, 1) := by decide +kernel
theorem dX8_price_29 : decode cX8_price 29 = .ok (.invokevirtual 125, 3) := by decide +kernel
theorem dX8_price_32 : decode cX8_price 32 = .ok (.aload_n 0, 1) := by decide +kernel
theorem dX8_price_33 : decode cX8_price 33 = .ok (.getfield 46, 3) := by decide +kernel
theorem dX8_price_36 : decode cX8_price 36 = .ok (.invokevirtual 129, 3) := by decide +kernel
theorem dX8_price_39 : decode cX8_price 39 = .ok (.ireturn, 1) := by decide +kernel
theorem dX8_guess_0 : decode cX8_guess 0 = .ok (.iconst 0, 1) := by decide +kernel
theorem dX8_guess_1 : decode cX8_guess 1 = .ok (.istore_n 1, 1) := by decide +kernel
theorem dX8_guess_2 : decode cX8_guess 2 = .ok (.aload_n 0, 1) := by decide +kernel
theorem dX8_guess_3 : decode cX8_guess 3 = .ok (.iconst 0, 1) := by decide +kernel
theorem dX8_guess_4 : decode cX8_guess 4 = .ok (.invokevirtual 132, 3) := by decide +kernel
theorem dX8_guess_7 : decode cX8_guess 7 = .ok (.istore_n 2, 1) := by decide +kernel
theorem dX8_guess_8 : decode cX8_guess 8 = .ok (.iconst 1, 1) := by decide +kernel
theorem dX8_guess_9 : decode cX8_guess 9 = .ok (.istore_n 3, 1) := by decide +kernel
theorem dX8_guess_10 : decode cX8_guess 10 = .ok (.iload_n 3, 1) := by decide +kernel
theorem dX8_guess_11 : decode cX8_guess 11 = .ok (.bipush 96, 2) := by decide +kernel
theorem dX8_guess_13 : decode cX8_guess 13 = .ok (.if_icmp .ge 27, 3) := by decide +kernel
theorem dX8_guess_16 : decode cX8_guess 16 = .ok (.aload_n 0, 1) := by decide +kernel
theorem dX8_guess_17 : decode cX8_guess 17 = .ok (.iload_n 3, 1) := by decide +kernel
theorem dX8_guess_18 : decode cX8_guess 18 = .ok (.invokevirtual 132, 3) := by decide +kernel
theorem dX8_guess_21 : decode cX8_guess 21 = .ok (.istore 4, 2) := by decide +kernel
theorem dX8_guess_23 : decode cX8_guess 23 = .ok (.iload 4, 2) := by decide +kernel
theorem dX8_guess_25 : decode cX8_guess 25 = .ok (.iload_n 2, 1) := by decide +kernel
theorem dX8_guess_26 : decode cX8_guess 26 = .ok (.if_icmp .ge 8, 3) := by decide +kernel
theorem dX8_guess_29 : decode cX8_guess 29 = .ok (.iload 4, 2) := by decide +kernel
theorem dX8_guess_31 : decode cX8_guess 31 = .ok (.istore_n 2, 1) := by decide +kernel
theorem dX8_guess_32 : decode cX8_guess 32 = .ok (.iload_n 3, 1) := by decide +kernel
theorem dX8_guess_33 : decode cX8_guess 33 = .ok (.istore_n 1, 1) := by decide +kernel
theorem dX8_guess_34 : decode cX8_guess 34 = .ok (.iinc 3 1, 3) := by decide +kernel
theorem dX8_guess_37 : decode cX8_guess 37 = .ok (.goto (-27), 3) := by decide +kernel
theorem dX8_guess_40 : decode cX8_guess 40 = .ok (.iload_n 1, 1) := by decide +kernel
theorem dX8_guess_41 : decode cX8_guess 41 = .ok (.ireturn, 1) := by decide +kernel
theorem dX8_type_0 : decode cX8_type 0 = .ok (.iload_n 1, 1) := by decide +kernel
theorem dX8_type_1 : decode cX8_type 1 = .ok (.bipush 32, 2) := by decide +kernel
theorem dX8_type_3 : decode cX8_type 3 = .ok (.if_icmp .lt 9, 3) := by decide +kernel
theorem dX8_type_6 : decode cX8_type 6 = .ok (.iload_n 1, 1) := by decide +kernel
theorem dX8_type_7 : decode cX8_type 7 = .ok (.bipush 126, 2) := by decide +kernel
theorem dX8_type_9 : decode cX8_type 9 = .ok (.if_icmp .le 5, 3) := by decide +kernel
theorem dX8_type_12 : decode cX8_type 12 = .ok (.iconst (-1), 1) := by decide +kernel
theorem dX8_type_13 : decode cX8_type 13 = .ok (.ireturn, 1) := by decide +kernel
theorem dX8_type_14 : decode cX8_type 14 = .ok (.aload_n 0, 1) := by decide +kernel
theorem dX8_type_15 : decode cX8_type 15 = .ok (.getfield 32, 3) := by decide +kernel
theorem dX8_type_18 : decode cX8_type 18 = .ok (.getfield 102, 3) := by decide +kernel
theorem dX8_type_21 : decode cX8_type 21 = .ok (.sipush 200, 3) := by decide +kernel
theorem dX8_type_24 : decode cX8_type 24 = .ok (.if_icmp .lt 6, 3) := by decide +kernel
theorem dX8_type_27 : decode cX8_type 27 = .ok (.bipush (-3), 2) := by decide +kernel
theorem dX8_type_29 : decode cX8_type 29 = .ok (.ireturn, 1) := by decide +kernel
theorem dX8_type_30 : decode cX8_type 30 = .ok (.aload_n 0, 1) := by decide +kernel
theorem dX8_type_31 : decode cX8_type 31 = .ok (.getfield 32, 3) := by decide +kernel
theorem dX8_type_34 : decode cX8_type 34 = .ok (.iload_n 1, 1) := by decide +kernel
theorem dX8_type_35 : decode cX8_type 35 = .ok (.bipush 32, 2) := by decide +kernel
theorem dX8_type_37 : decode cX8_type 37 = .ok (.isub, 1) := by decide +kernel
theorem dX8_type_38 : decode cX8_type 38 = .ok (.invokevirtual 135, 3) := by decide +kernel
theorem dX8_type_41 : decode cX8_type 41 = .ok (.aload_n 0, 1) := by decide +kernel
theorem dX8_type_42 : decode cX8_type 42 = .ok (.getfield 32, 3) := by decide +kernel
theorem dX8_type_45 : decode cX8_type 45 = .ok (.getfield 102, 3) := by decide +kernel
theorem dX8_type_48 : decode cX8_type 48 = .ok (.ireturn, 1) := by decide +kernel
theorem dX8_remove_0 : decode cX8_remove 0 = .ok (.iload_n 1, 1) := by decide +kernel
theorem dX8_remove_1 : decode cX8_remove 1 = .ok (.ifCond .ge 5, 3) := by decide +kernel
theorem dX8_remove_4 : decode cX8_remove 4 = .ok (.iconst (-1), 1) := by decide +kernel
theorem dX8_remove_5 : decode cX8_remove 5 = .ok (.ireturn, 1) := by decide +kernel
theorem dX8_remove_6 : decode cX8_remove 6 = .ok (.aload_n 0, 1) := by decide +kernel
theorem dX8_remove_7 : decode cX8_remove 7 = .ok (.getfield 32, 3) := by decide +kernel
theorem dX8_remove_10 : decode cX8_remove 10 = .ok (.iload_n 1, 1) := by decide +kernel
theorem dX8_remove_11 : decode cX8_remove 11 = .ok (.invokevirtual 138, 3) := by decide +kernel
theorem dX8_remove_14 : decode cX8_remove 14 = .ok (.aload_n 0, 1) := by decide +kernel
theorem dX8_remove_15 : decode cX8_remove 15 = .ok (.getfield 32, 3) := by decide +kernel
theorem dX8_remove_18 : decode cX8_remove 18 = .ok (.getfield 102, 3) := by decide +kernel
theorem dX8_remove_21 : decode cX8_remove 21 = .ok (.ireturn, 1) := by decide +kernel
theorem dX8_encode_0 : decode cX8_encode 0 = .ok (.aload_n 0, 1) := by decide +kernel
theorem dX8_encode_1 : decode cX8_encode 1 = .ok (.aload_n 0, 1) := by decide +kernel
theorem dX8_encode_2 : decode cX8_encode 2 = .ok (.getfield 32, 3) := by decide +kernel
theorem dX8_encode_5 : decode cX8_encode 5 = .ok (.invokevirtual 141, 3) := by decide +kernel
theorem dX8_encode_8 : decode cX8_encode 8 = .ok (.aload_n 0, 1) := by decide +kernel
theorem dX8_encode_9 : decode cX8_encode 9 = .ok (.getfield 53, 3) := by decide +kernel
theorem dX8_encode_12 : decode cX8_encode 12 = .ok (.getfield 145, 3) := by decide +kernel
theorem dX8_encode_15 : decode cX8_encode 15 = .ok (.getfield 102, 3) := by decide +kernel
theorem dX8_encode_18 : decode cX8_encode 18 = .ok (.sipush 400, 3) := by decide +kernel
theorem dX8_encode_21 : decode cX8_encode 21 = .ok (.if_icmp .le 6, 3) := by decide +kernel
theorem dX8_encode_24 : decode cX8_encode 24 = .ok (.bipush (-3), 2) := by decide +kernel
theorem dX8_encode_26 : decode cX8_encode 26 = .ok (.ireturn, 1) := by decide +kernel
theorem dX8_encode_27 : decode cX8_encode 27 = .ok (.aload_n 0, 1) := by decide +kernel
theorem dX8_encode_28 : decode cX8_encode 28 = .ok (.invokevirtual 82, 3) := by decide +kernel
theorem dX8_encode_31 : decode cX8_encode 31 = .ok (.aload_n 0, 1) := by decide +kernel
theorem dX8_encode_32 : decode cX8_encode 32 = .ok (.getfield 12, 3) := by decide +kernel
theorem dX8_encode_35 : decode cX8_encode 35 = .ok (.getfield 85, 3) := by decide +kernel
theorem dX8_encode_38 : decode cX8_encode 38 = .ok (.aload_n 0, 1) := by decide +kernel
theorem dX8_encode_39 : decode cX8_encode 39 = .ok (.getfield 16, 3) := by decide +kernel
theorem dX8_encode_42 : decode cX8_encode 42 = .ok (.getfield 85, 3) := by decide +kernel
theorem dX8_encode_45 : decode cX8_encode 45 = .ok (.invokevirtual 148, 3) := by decide +kernel
theorem dX8_encode_48 : decode cX8_encode 48 = .ok (.aload_n 0, 1) := by decide +kernel
theorem dX8_encode_49 : decode cX8_encode 49 = .ok (.getfield 12, 3) := by decide +kernel
theorem dX8_encode_52 : decode cX8_encode 52 = .ok (.getfield 152, 3) := by decide +kernel
theorem dX8_encode_55 : decode cX8_encode 55 = .ok (.aload_n 0, 1) := by decide +kernel
theorem dX8_encode_56 : decode cX8_encode 56 = .ok (.getfield 16, 3) := by decide +kernel
theorem dX8_encode_59 : decode cX8_encode 59 = .ok (.getfield 152, 3) := by decide +kernel
theorem dX8_encode_62 : decode cX8_encode 62 = .ok (.invokevirtual 156, 3) := by decide +kernel
theorem dX8_encode_65 : decode cX8_encode 65 = .ok (.aload_n 0, 1) := by decide +kernel
theorem dX8_encode_66 : decode cX8_encode 66 = .ok (.getfield 12, 3) := by decide +kernel
theorem dX8_encode_69 : decode cX8_encode 69 = .ok (.getfield 161, 3) := by decide +kernel
theorem dX8_encode_72 : decode cX8_encode 72 = .ok (.aload_n 0, 1) := by decide +kernel
theorem dX8_encode_73 : decode cX8_encode 73 = .ok (.getfield 53, 3) := by decide +kernel
theorem dX8_encode_76 : decode cX8_encode 76 = .ok (.getfield 145, 3) := by decide +kernel
theorem dX8_encode_79 : decode cX8_encode 79 = .ok (.invokevirtual 164, 3) := by decide +kernel
theorem dX8_encode_82 : decode cX8_encode 82 = .ok (.aload_n 0, 1) := by decide +kernel
theorem dX8_encode_83 : decode cX8_encode 83 = .ok (.getfield 12, 3) := by decide +kernel
theorem dX8_encode_86 : decode cX8_encode 86 = .ok (.getfield 161, 3) := by decide +kernel
theorem dX8_encode_89 : decode cX8_encode 89 = .ok (.getfield 102, 3) := by decide +kernel
theorem dX8_encode_92 : decode cX8_encode 92 = .ok (.ireturn, 1) := by decide +kernel
theorem dX8_bytes_0 : decode cX8_bytes 0 = .ok (.aload_n 0, 1) := by decide +kernel
theorem dX8_bytes_1 : decode cX8_bytes 1 = .ok (.getfield 12, 3) := by decide +kernel
theorem dX8_bytes_4 : decode cX8_bytes 4 = .ok (.getfield 161, 3) := by decide +kernel
theorem dX8_bytes_7 : decode cX8_bytes 7 = .ok (.getfield 102, 3) := by decide +kernel
theorem dX8_bytes_10 : decode cX8_bytes 10 = .ok (.ireturn, 1) := by decide +kernel
theorem dX8_codeByte_0 : decode cX8_codeByte 0 = .ok (.aload_n 0, 1) := by decide +kernel
theorem dX8_codeByte_1 : decode cX8_codeByte 1 = .ok (.getfield 12, 3) := by decide +kernel
theorem dX8_codeByte_4 : decode cX8_codeByte 4 = .ok (.getfield 161, 3) := by decide +kernel
theorem dX8_codeByte_7 : decode cX8_codeByte 7 = .ok (.iload_n 1, 1) := by decide +kernel
theorem dX8_codeByte_8 : decode cX8_codeByte 8 = .ok (.invokevirtual 166, 3) := by decide +kernel
theorem dX8_codeByte_11 : decode cX8_codeByte 11 = .ok (.ifCond .eq 17, 3) := by decide +kernel
theorem dX8_codeByte_14 : decode cX8_codeByte 14 = .ok (.aload_n 0, 1) := by decide +kernel
theorem dX8_codeByte_15 : decode cX8_codeByte 15 = .ok (.getfield 12, 3) := by decide +kernel
theorem dX8_codeByte_18 : decode cX8_codeByte 18 = .ok (.getfield 161, 3) := by decide +kernel
theorem dX8_codeByte_21 : decode cX8_codeByte 21 = .ok (.iload_n 1, 1) := by decide +kernel
theorem dX8_codeByte_22 : decode cX8_codeByte 22 = .ok (.invokevirtual 105, 3) := by decide +kernel
theorem dX8_codeByte_25 : decode cX8_codeByte 25 = .ok (.goto 4, 3) := by decide +kernel
theorem dX8_codeByte_28 : decode cX8_codeByte 28 = .ok (.iconst (-1), 1) := by decide +kernel
theorem dX8_codeByte_29 : decode cX8_codeByte 29 = .ok (.ireturn, 1) := by decide +kernel
theorem dX8_longestCarry_0 : decode cX8_longestCarry 0 = .ok (.aload_n 0, 1) := by decide +kernel
theorem dX8_longestCarry_1 : decode cX8_longestCarry 1 = .ok (.getfield 12, 3) := by decide +kernel
theorem dX8_longestCarry_4 : decode cX8_longestCarry 4 = .ok (.getfield 152, 3) := by decide +kernel
theorem dX8_longestCarry_7 : decode cX8_longestCarry 7 = .ok (.getfield 170, 3) := by decide +kernel
theorem dX8_longestCarry_10 : decode cX8_longestCarry 10 = .ok (.ireturn, 1) := by decide +kernel
theorem dX8_decode_0 : decode cX8_decode 0 = .ok (.aload_n 0, 1) := by decide +kernel
theorem dX8_decode_1 : decode cX8_decode 1 = .ok (.invokevirtual 173, 3) := by decide +kernel
theorem dX8_decode_4 : decode cX8_decode 4 = .ok (.istore_n 1, 1) := by decide +kernel
theorem dX8_decode_5 : decode cX8_decode 5 = .ok (.iload_n 1, 1) := by decide +kernel
theorem dX8_decode_6 : decode cX8_decode 6 = .ok (.ifCond .ne 40, 3) := by decide +kernel
theorem dX8_decode_9 : decode cX8_decode 9 = .ok (.aload_n 0, 1) := by decide +kernel
theorem dX8_decode_10 : decode cX8_decode 10 = .ok (.aload_n 0, 1) := by decide +kernel
theorem dX8_decode_11 : decode cX8_decode 11 = .ok (.getfield 16, 3) := by decide +kernel
theorem dX8_decode_14 : decode cX8_decode 14 = .ok (.getfield 176, 3) := by decide +kernel
theorem dX8_decode_17 : decode cX8_decode 17 = .ok (.invokevirtual 141, 3) := by decide +kernel
theorem dX8_decode_20 : decode cX8_decode 20 = .ok (.aload_n 0, 1) := by decide +kernel
theorem dX8_decode_21 : decode cX8_decode 21 = .ok (.getfield 53, 3) := by decide +kernel
theorem dX8_decode_24 : decode cX8_decode 24 = .ok (.getfield 145, 3) := by decide +kernel
theorem dX8_decode_27 : decode cX8_decode 27 = .ok (.aload_n 0, 1) := by decide +kernel
theorem dX8_decode_28 : decode cX8_decode 28 = .ok (.getfield 12, 3) := by decide +kernel
theorem dX8_decode_31 : decode cX8_decode 31 = .ok (.getfield 161, 3) := by decide +kernel
theorem dX8_decode_34 : decode cX8_decode 34 = .ok (.invokevirtual 179, 3) := by decide +kernel
theorem dX8_decode_37 : decode cX8_decode 37 = .ok (.ifCond .eq 7, 3) := by decide +kernel
theorem dX8_decode_40 : decode cX8_decode 40 = .ok (.iconst 0, 1) := by decide +kernel
theorem dX8_decode_41 : decode cX8_decode 41 = .ok (.goto 4, 3) := by decide +kernel
theorem dX8_decode_44 : decode cX8_decode 44 = .ok (.iconst 3, 1) := by decide +kernel
theorem dX8_decode_45 : decode cX8_decode 45 = .ok (.istore_n 1, 1) := by decide +kernel
theorem dX8_decode_46 : decode cX8_decode 46 = .ok (.iload_n 1, 1) := by decide +kernel
theorem dX8_decode_47 : decode cX8_decode 47 = .ok (.ifCond .eq 8, 3) := by decide +kernel
theorem dX8_decode_50 : decode cX8_decode 50 = .ok (.bipush (-100), 2) := by decide +kernel
theorem dX8_decode_52 : decode cX8_decode 52 = .ok (.iload_n 1, 1) := by decide +kernel
theorem dX8_decode_53 : decode cX8_decode 53 = .ok (.isub, 1) := by decide +kernel
theorem dX8_decode_54 : decode cX8_decode 54 = .ok (.ireturn, 1) := by decide +kernel
theorem dX8_decode_55 : decode cX8_decode 55 = .ok (.aload_n 0, 1) := by decide +kernel
theorem dX8_decode_56 : decode cX8_decode 56 = .ok (.invokevirtual 82, 3) := by decide +kernel
theorem dX8_decode_59 : decode cX8_decode 59 = .ok (.aload_n 0, 1) := by decide +kernel
theorem dX8_decode_60 : decode cX8_decode 60 = .ok (.getfield 12, 3) := by decide +kernel
theorem dX8_decode_63 : decode cX8_decode 63 = .ok (.getfield 85, 3) := by decide +kernel
theorem dX8_decode_66 : decode cX8_decode 66 = .ok (.aload_n 0, 1) := by decide +kernel
theorem dX8_decode_67 : decode cX8_decode 67 = .ok (.getfield 16, 3) := by decide +kernel
theorem dX8_decode_70 : decode cX8_decode 70 = .ok (.getfield 85, 3) := by decide +kernel
theorem dX8_decode_73 : decode cX8_decode 73 = .ok (.invokevirtual 148, 3) := by decide +kernel
theorem dX8_decode_76 : decode cX8_decode 76 = .ok (.aload_n 0, 1) := by decide +kernel
theorem dX8_decode_77 : decode cX8_decode 77 = .ok (.getfield 12, 3) := by decide +kernel
theorem dX8_decode_80 : decode cX8_decode 80 = .ok (.getfield 176, 3) := by decide +kernel
theorem dX8_decode_83 : decode cX8_decode 83 = .ok (.aload_n 0, 1) := by decide +kernel
theorem dX8_decode_84 : decode cX8_decode 84 = .ok (.getfield 16, 3) := by decide +kernel
theorem dX8_decode_87 : decode cX8_decode 87 = .ok (.getfield 176, 3) := by decide +kernel
theorem dX8_decode_90 : decode cX8_decode 90 = .ok (.invokevirtual 164, 3) := by decide +kernel
theorem dX8_decode_93 : decode cX8_decode 93 = .ok (.aload_n 0, 1) := by decide +kernel
theorem dX8_decode_94 : decode cX8_decode 94 = .ok (.getfield 12, 3) := by decide +kernel
theorem dX8_decode_97 : decode cX8_decode 97 = .ok (.getfield 176, 3) := by decide +kernel
theorem dX8_decode_100 : decode cX8_decode 100 = .ok (.getfield 102, 3) := by decide +kernel
theorem dX8_decode_103 : decode cX8_decode 103 = .ok (.ireturn, 1) := by decide +kernel
theorem dX8_decoded_0 : decode cX8_decoded 0 = .ok (.iload_n 1, 1) := by decide +kernel
theorem dX8_decoded_1 : decode cX8_decoded 1 = .ok (.ifCond .ge 5, 3) := by decide +kernel
theorem dX8_decoded_4 : decode cX8_decoded 4 = .ok (.iconst (-1), 1) := by decide +kernel
theorem dX8_decoded_5 : decode cX8_decoded 5 = .ok (.ireturn, 1) := by decide +kernel
theorem dX8_decoded_6 : decode cX8_decoded 6 = .ok (.aload_n 0, 1) := by decide +kernel
theorem dX8_decoded_7 : decode cX8_decoded 7 = .ok (.getfield 12, 3) := by decide +kernel
theorem dX8_decoded_10 : decode cX8_decoded 10 = .ok (.getfield 176, 3) := by decide +kernel
theorem dX8_decoded_13 : decode cX8_decoded 13 = .ok (.iload_n 1, 1) := by decide +kernel
theorem dX8_decoded_14 : decode cX8_decoded 14 = .ok (.invokevirtual 166, 3) := by decide +kernel
theorem dX8_decoded_17 : decode cX8_decoded 17 = .ok (.ifCond .eq 20, 3) := by decide +kernel
theorem dX8_decoded_20 : decode cX8_decoded 20 = .ok (.aload_n 0, 1) := by decide +kernel
theorem dX8_decoded_21 : decode cX8_decoded 21 = .ok (.getfield 12, 3) := by decide +kernel
theorem dX8_decoded_24 : decode cX8_decoded 24 = .ok (.getfield 176, 3) := by decide +kernel
theorem dX8_decoded_27 : decode cX8_decoded 27 = .ok (.iload_n 1, 1) := by decide +kernel
theorem dX8_decoded_28 : decode cX8_decoded 28 = .ok (.invokevirtual 105, 3) := by decide +kernel
theorem dX8_decoded_31 : decode cX8_decoded 31 = .ok (.bipush 32, 2) := by decide +kernel
theorem dX8_decoded_33 : decode cX8_decoded 33 = .ok (.iadd, 1) := by decide +kernel
theorem dX8_decoded_34 : decode cX8_decoded 34 = .ok (.goto 5, 3) := by decide +kernel
theorem dX8_decoded_37 : decode cX8_decoded 37 = .ok (.bipush (-9), 2) := by decide +kernel
theorem dX8_decoded_39 : decode cX8_decoded 39 = .ok (.ireturn, 1) := by decide +kernel
theorem dX8_flip_0 : decode cX8_flip 0 = .ok (.aload_n 0, 1) := by decide +kernel
theorem dX8_flip_1 : decode cX8_flip 1 = .ok (.getfield 12, 3) := by decide +kernel
theorem dX8_flip_4 : decode cX8_flip 4 = .ok (.getfield 161, 3) := by decide +kernel
theorem dX8_flip_7 : decode cX8_flip 7 = .ok (.iload_n 1, 1) := by decide +kernel
theorem dX8_flip_8 : decode cX8_flip 8 = .ok (.invokevirtual 166, 3) := by decide +kernel
theorem dX8_flip_11 : decode cX8_flip 11 = .ok (.ifCond .eq 13, 3) := by decide +kernel
theorem dX8_flip_14 : decode cX8_flip 14 = .ok (.iload_n 2, 1) := by decide +kernel
theorem dX8_flip_15 : decode cX8_flip 15 = .ok (.ifCond .lt 9, 3) := by decide +kernel
theorem dX8_flip_18 : decode cX8_flip 18 = .ok (.iload_n 2, 1) := by decide +kernel
theorem dX8_flip_19 : decode cX8_flip 19 = .ok (.bipush 7, 2) := by decide +kernel
theorem dX8_flip_21 : decode cX8_flip 21 = .ok (.if_icmp .le 5, 3) := by decide +kernel
theorem dX8_flip_24 : decode cX8_flip 24 = .ok (.iconst (-1), 1) := by decide +kernel
theorem dX8_flip_25 : decode cX8_flip 25 = .ok (.ireturn, 1) := by decide +kernel
theorem dX8_flip_26 : decode cX8_flip 26 = .ok (.aload_n 0, 1) := by decide +kernel
theorem dX8_flip_27 : decode cX8_flip 27 = .ok (.invokevirtual 82, 3) := by decide +kernel
theorem dX8_flip_30 : decode cX8_flip 30 = .ok (.aload_n 0, 1) := by decide +kernel
theorem dX8_flip_31 : decode cX8_flip 31 = .ok (.getfield 12, 3) := by decide +kernel
theorem dX8_flip_34 : decode cX8_flip 34 = .ok (.getfield 161, 3) := by decide +kernel
theorem dX8_flip_37 : decode cX8_flip 37 = .ok (.iload_n 1, 1) := by decide +kernel
theorem dX8_flip_38 : decode cX8_flip 38 = .ok (.aload_n 0, 1) := by decide +kernel
theorem dX8_flip_39 : decode cX8_flip 39 = .ok (.getfield 12, 3) := by decide +kernel
theorem dX8_flip_42 : decode cX8_flip 42 = .ok (.getfield 161, 3) := by decide +kernel
theorem dX8_flip_45 : decode cX8_flip 45 = .ok (.iload_n 1, 1) := by decide +kernel
theorem dX8_flip_46 : decode cX8_flip 46 = .ok (.invokevirtual 105, 3) := by decide +kernel
theorem dX8_flip_49 : decode cX8_flip 49 = .ok (.iconst 1, 1) := by decide +kernel
theorem dX8_flip_50 : decode cX8_flip 50 = .ok (.iload_n 2, 1) := by decide +kernel
theorem dX8_flip_51 : decode cX8_flip 51 = .ok (.ishl, 1) := by decide +kernel
theorem dX8_flip_52 : decode cX8_flip 52 = .ok (.ixor, 1) := by decide +kernel
theorem dX8_flip_53 : decode cX8_flip 53 = .ok (.invokevirtual 183, 3) := by decide +kernel
theorem dX8_flip_56 : decode cX8_flip 56 = .ok (.aload_n 0, 1) := by decide +kernel
theorem dX8_flip_57 : decode cX8_flip 57 = .ok (.getfield 12, 3) := by decide +kernel
theorem dX8_flip_60 : decode cX8_flip 60 = .ok (.getfield 161, 3) := by decide +kernel
theorem dX8_flip_63 : decode cX8_flip 63 = .ok (.iload_n 1, 1) := by decide +kernel
theorem dX8_flip_64 : decode cX8_flip 64 = .ok (.invokevirtual 105, 3) := by decide +kernel
theorem dX8_flip_67 : decode cX8_flip 67 = .ok (.ireturn, 1) := by decide +kernel
theorem dX8_cut_0 : decode cX8_cut 0 = .ok (.iload_n 1, 1) := by decide +kernel
theorem dX8_cut_1 : decode cX8_cut 1 = .ok (.iconst 1, 1) := by decide +kernel
theorem dX8_cut_2 : decode cX8_cut 2 = .ok (.if_icmp .lt 10, 3) := by decide +kernel
theorem dX8_cut_5 : decode cX8_cut 5 = .ok (.iload_n 1, 1) := by decide +kernel
theorem dX8_cut_6 : decode cX8_cut 6 = .ok (.sipush 400, 3) := by decide +kernel
theorem dX8_cut_9 : decode cX8_cut 9 = .ok (.if_icmp .le 5, 3) := by decide +kernel
theorem dX8_cut_12 : decode cX8_cut 12 = .ok (.iconst (-1), 1) := by decide +kernel
theorem dX8_cut_13 : decode cX8_cut 13 = .ok (.ireturn, 1) := by decide +kernel
theorem dX8_cut_14 : decode cX8_cut 14 = .ok (.iload_n 1, 1) := by decide +kernel
theorem dX8_cut_15 : decode cX8_cut 15 = .ok (.aload_n 0, 1) := by decide +kernel
theorem dX8_cut_16 : decode cX8_cut 16 = .ok (.getfield 12, 3) := by decide +kernel
theorem dX8_cut_19 : decode cX8_cut 19 = .ok (.getfield 161, 3) := by decide +kernel
theorem dX8_cut_22 : decode cX8_cut 22 = .ok (.getfield 102, 3) := by decide +kernel
theorem dX8_cut_25 : decode cX8_cut 25 = .ok (.if_icmp .le 6, 3) := by decide +kernel
theorem dX8_cut_28 : decode cX8_cut 28 = .ok (.bipush (-2), 2) := by decide +kernel
theorem dX8_cut_30 : decode cX8_cut 30 = .ok (.ireturn, 1) := by decide +kernel
theorem dX8_cut_31 : decode cX8_cut 31 = .ok (.aload_n 0, 1) := by decide +kernel
theorem dX8_cut_32 : decode cX8_cut 32 = .ok (.invokevirtual 82, 3) := by decide +kernel
theorem dX8_cut_35 : decode cX8_cut 35 = .ok (.aload_n 0, 1) := by decide +kernel
theorem dX8_cut_36 : decode cX8_cut 36 = .ok (.getfield 12, 3) := by decide +kernel
theorem dX8_cut_39 : decode cX8_cut 39 = .ok (.getfield 161, 3) := by decide +kernel
theorem dX8_cut_42 : decode cX8_cut 42 = .ok (.iload_n 1, 1) := by decide +kernel
theorem dX8_cut_43 : decode cX8_cut 43 = .ok (.invokevirtual 138, 3) := by decide +kernel
theorem dX8_cut_46 : decode cX8_cut 46 = .ok (.aload_n 0, 1) := by decide +kernel
theorem dX8_cut_47 : decode cX8_cut 47 = .ok (.getfield 12, 3) := by decide +kernel
theorem dX8_cut_50 : decode cX8_cut 50 = .ok (.getfield 161, 3) := by decide +kernel
theorem dX8_cut_53 : decode cX8_cut 53 = .ok (.getfield 102, 3) := by decide +kernel
theorem dX8_cut_56 : decode cX8_cut 56 = .ok (.ireturn, 1) := by decide +kernel
theorem dX8_append_0 : decode cX8_append 0 = .ok (.iload_n 1, 1) := by decide +kernel
theorem dX8_append_1 : decode cX8_append 1 = .ok (.ifCond .lt 10, 3) := by decide +kernel
theorem dX8_append_4 : decode cX8_append 4 = .ok (.iload_n 1, 1) := by decide +kernel
theorem dX8_append_5 : decode cX8_append 5 = .ok (.sipush 255, 3) := by decide +kernel
theorem dX8_append_8 : decode cX8_append 8 = .ok (.if_icmp .le 5, 3) := by decide +kernel
theorem dX8_append_11 : decode cX8_append 11 = .ok (.iconst (-1), 1) := by decide +kernel
theorem dX8_append_12 : decode cX8_append 12 = .ok (.ireturn, 1) := by decide +kernel
theorem dX8_append_13 : decode cX8_append 13 = .ok (.aload_n 0, 1) := by decide +kernel
theorem dX8_append_14 : decode cX8_append 14 = .ok (.getfield 12, 3) := by decide +kernel
theorem dX8_append_17 : decode cX8_append 17 = .ok (.getfield 161, 3) := by decide +kernel
theorem dX8_append_20 : decode cX8_append 20 = .ok (.getfield 102, 3) := by decide +kernel
theorem dX8_append_23 : decode cX8_append 23 = .ok (.sipush 400, 3) := by decide +kernel
theorem dX8_append_26 : decode cX8_append 26 = .ok (.if_icmp .lt 6, 3) := by decide +kernel
theorem dX8_append_29 : decode cX8_append 29 = .ok (.bipush (-3), 2) := by decide +kernel
theorem dX8_append_31 : decode cX8_append 31 = .ok (.ireturn, 1) := by decide +kernel
theorem dX8_append_32 : decode cX8_append 32 = .ok (.aload_n 0, 1) := by decide +kernel
theorem dX8_append_33 : decode cX8_append 33 = .ok (.invokevirtual 82, 3) := by decide +kernel
theorem dX8_append_36 : decode cX8_append 36 = .ok (.aload_n 0, 1) := by decide +kernel
theorem dX8_append_37 : decode cX8_append 37 = .ok (.getfield 12, 3) := by decide +kernel
theorem dX8_append_40 : decode cX8_append 40 = .ok (.getfield 161, 3) := by decide +kernel
theorem dX8_append_43 : decode cX8_append 43 = .ok (.iload_n 1, 1) := by decide +kernel
theorem dX8_append_44 : decode cX8_append 44 = .ok (.invokevirtual 135, 3) := by decide +kernel
theorem dX8_append_47 : decode cX8_append 47 = .ok (.aload_n 0, 1) := by decide +kernel
theorem dX8_append_48 : decode cX8_append 48 = .ok (.getfield 12, 3) := by decide +kernel
theorem dX8_append_51 : decode cX8_append 51 = .ok (.getfield 161, 3) := by decide +kernel
theorem dX8_append_54 : decode cX8_append 54 = .ok (.getfield 102, 3) := by decide +kernel
theorem dX8_append_57 : decode cX8_append 57 = .ok (.ireturn, 1) := by decide +kernel
theorem dX8_coded_0 : decode cX8_coded 0 = .ok (.aload_n 0, 1) := by decide +kernel
theorem dX8_coded_1 : decode cX8_coded 1 = .ok (.getfield 12, 3) := by decide +kernel
theorem dX8_coded_4 : decode cX8_coded 4 = .ok (.getfield 152, 3) := by decide +kernel
theorem dX8_coded_7 : decode cX8_coded 7 = .ok (.getfield 187, 3) := by decide +kernel
theorem dX8_coded_10 : decode cX8_coded 10 = .ok (.getfield 102, 3) := by decide +kernel
theorem dX8_coded_13 : decode cX8_coded 13 = .ok (.ireturn, 1) := by decide +kernel
theorem dX8_account_0 : decode cX8_account 0 = .ok (.aload_n 0, 1) := by decide +kernel
theorem dX8_account_1 : decode cX8_account 1 = .ok (.getfield 12, 3) := by decide +kernel
theorem dX8_account_4 : decode cX8_account 4 = .ok (.getfield 152, 3) := by decide +kernel
theorem dX8_account_7 : decode cX8_account 7 = .ok (.getfield 187, 3) := by decide +kernel
theorem dX8_account_10 : decode cX8_account 10 = .ok (.iload_n 1, 1) := by decide +kernel
theorem dX8_account_11 : decode cX8_account 11 = .ok (.invokevirtual 166, 3) := by decide +kernel
theorem dX8_account_14 : decode cX8_account 14 = .ok (.ifCond .ne 5, 3) := by decide +kernel
theorem dX8_account_17 : decode cX8_account 17 = .ok (.iconst (-1), 1) := by decide +kernel
theorem dX8_account_18 : decode cX8_account 18 = .ok (.ireturn, 1) := by decide +kernel
theorem dX8_account_19 : decode cX8_account 19 = .ok (.iload_n 2, 1) := by decide +kernel
theorem dX8_account_20 : decode cX8_account 20 = .ok (.tableswitch 92 0 3 #[32, 47, 62, 77], 32) := by decide +kernel
theorem dX8_account_52 : decode cX8_account 52 = .ok (.aload_n 0, 1) := by decide +kernel
theorem dX8_account_53 : decode cX8_account 53 = .ok (.getfield 12, 3) := by decide +kernel
theorem dX8_account_56 : decode cX8_account 56 = .ok (.getfield 152, 3) := by decide +kernel
theorem dX8_account_59 : decode cX8_account 59 = .ok (.getfield 190, 3) := by decide +kernel
theorem dX8_account_62 : decode cX8_account 62 = .ok (.iload_n 1, 1) := by decide +kernel
theorem dX8_account_63 : decode cX8_account 63 = .ok (.invokevirtual 105, 3) := by decide +kernel
theorem dX8_account_66 : decode cX8_account 66 = .ok (.ireturn, 1) := by decide +kernel
theorem dX8_account_67 : decode cX8_account 67 = .ok (.aload_n 0, 1) := by decide +kernel
theorem dX8_account_68 : decode cX8_account 68 = .ok (.getfield 12, 3) := by decide +kernel
theorem dX8_account_71 : decode cX8_account 71 = .ok (.getfield 152, 3) := by decide +kernel
theorem dX8_account_74 : decode cX8_account 74 = .ok (.getfield 193, 3) := by decide +kernel
theorem dX8_account_77 : decode cX8_account 77 = .ok (.iload_n 1, 1) := by decide +kernel
theorem dX8_account_78 : decode cX8_account 78 = .ok (.invokevirtual 105, 3) := by decide +kernel
theorem dX8_account_81 : decode cX8_account 81 = .ok (.ireturn, 1) := by decide +kernel
theorem dX8_account_82 : decode cX8_account 82 = .ok (.aload_n 0, 1) := by decide +kernel
theorem dX8_account_83 : decode cX8_account 83 = .ok (.getfield 12, 3) := by decide +kernel
theorem dX8_account_86 : decode cX8_account 86 = .ok (.getfield 152, 3) := by decide +kernel
theorem dX8_account_89 : decode cX8_account 89 = .ok (.getfield 196, 3) := by decide +kernel
theorem dX8_account_92 : decode cX8_account 92 = .ok (.iload_n 1, 1) := by decide +kernel
theorem dX8_account_93 : decode cX8_account 93 = .ok (.invokevirtual 105, 3) := by decide +kernel
theorem dX8_account_96 : decode cX8_account 96 = .ok (.ireturn, 1) := by decide +kernel
theorem dX8_account_97 : decode cX8_account 97 = .ok (.aload_n 0, 1) := by decide +kernel
theorem dX8_account_98 : decode cX8_account 98 = .ok (.getfield 12, 3) := by decide +kernel
theorem dX8_account_101 : decode cX8_account 101 = .ok (.getfield 152, 3) := by decide +kernel
theorem dX8_account_104 : decode cX8_account 104 = .ok (.getfield 187, 3) := by decide +kernel
theorem dX8_account_107 : decode cX8_account 107 = .ok (.iload_n 1, 1) := by decide +kernel
theorem dX8_account_108 : decode cX8_account 108 = .ok (.invokevirtual 105, 3) := by decide +kernel
theorem dX8_account_111 : decode cX8_account 111 = .ok (.ireturn, 1) := by decide +kernel
theorem dX8_account_112 : decode cX8_account 112 = .ok (.iconst (-1), 1) := by decide +kernel
theorem dX8_account_113 : decode cX8_account 113 = .ok (.ireturn, 1) := by decide +kernel
theorem dX8_cost_0 : decode cX8_cost 0 = .ok (.iconst 0, 1) := by decide +kernel
theorem dX8_cost_1 : decode cX8_cost 1 = .ok (.istore_n 1, 1) := by decide +kernel
theorem dX8_cost_2 : decode cX8_cost 2 = .ok (.iconst 0, 1) := by decide +kernel
theorem dX8_cost_3 : decode cX8_cost 3 = .ok (.istore_n 2, 1) := by decide +kernel
theorem dX8_cost_4 : decode cX8_cost 4 = .ok (.iload_n 2, 1) := by decide +kernel
theorem dX8_cost_5 : decode cX8_cost 5 = .ok (.aload_n 0, 1) := by decide +kernel
theorem dX8_cost_6 : decode cX8_cost 6 = .ok (.getfield 12, 3) := by decide +kernel
theorem dX8_cost_9 : decode cX8_cost 9 = .ok (.getfield 152, 3) := by decide +kernel
theorem dX8_cost_12 : decode cX8_cost 12 = .ok (.getfield 190, 3) := by decide +kernel
theorem dX8_cost_15 : decode cX8_cost 15 = .ok (.getfield 102, 3) := by decide +kernel
theorem dX8_cost_18 : decode cX8_cost 18 = .ok (.if_icmp .ge 26, 3) := by decide +kernel
theorem dX8_cost_21 : decode cX8_cost 21 = .ok (.iload_n 1, 1) := by decide +kernel
theorem dX8_cost_22 : decode cX8_cost 22 = .ok (.aload_n 0, 1) := by decide +kernel
theorem dX8_cost_23 : decode cX8_cost 23 = .ok (.getfield 12, 3) := by decide +kernel
theorem dX8_cost_26 : decode cX8_cost 26 = .ok (.getfield 152, 3) := by decide +kernel
theorem dX8_cost_29 : decode cX8_cost 29 = .ok (.getfield 190, 3) := by decide +kernel
theorem dX8_cost_32 : decode cX8_cost 32 = .ok (.iload_n 2, 1) := by decide +kernel
theorem dX8_cost_33 : decode cX8_cost 33 = .ok (.invokevirtual 105, 3) := by decide +kernel
theorem dX8_cost_36 : decode cX8_cost 36 = .ok (.iadd, 1) := by decide +kernel
theorem dX8_cost_37 : decode cX8_cost 37 = .ok (.istore_n 1, 1) := by decide +kernel
theorem dX8_cost_38 : decode cX8_cost 38 = .ok (.iinc 2 1, 3) := by decide +kernel
theorem dX8_cost_41 : decode cX8_cost 41 = .ok (.goto (-37), 3) := by decide +kernel
theorem dX8_cost_44 : decode cX8_cost 44 = .ok (.iload_n 1, 1) := by decide +kernel
theorem dX8_cost_45 : decode cX8_cost 45 = .ok (.ireturn, 1) := by decide +kernel
theorem dX8_lg_0 : decode cX8_lg 0 = .ok (.iload_n 2, 1) := by decide +kernel
theorem dX8_lg_1 : decode cX8_lg 1 = .ok (.iconst 1, 1) := by decide +kernel
theorem dX8_lg_2 : decode cX8_lg 2 = .ok (.if_icmp .lt 19, 3) := by decide +kernel
theorem dX8_lg_5 : decode cX8_lg 5 = .ok (.iload_n 2, 1) := by decide +kernel
theorem dX8_lg_6 : decode cX8_lg 6 = .ok (.ldc 199, 2) := by decide +kernel
theorem dX8_lg_8 : decode cX8_lg 8 = .ok (.if_icmp .gt 13, 3) := by decide +kernel
theorem dX8_lg_11 : decode cX8_lg 11 = .ok (.iload_n 1, 1) := by decide +kernel
theorem dX8_lg_12 : decode cX8_lg 12 = .ok (.iconst 1, 1) := by decide +kernel
theorem dX8_lg_13 : decode cX8_lg 13 = .ok (.if_icmp .lt 8, 3) := by decide +kernel
theorem dX8_lg_16 : decode cX8_lg 16 = .ok (.iload_n 1, 1) := by decide +kernel
theorem dX8_lg_17 : decode cX8_lg 17 = .ok (.iload_n 2, 1) := by decide +kernel
theorem dX8_lg_18 : decode cX8_lg 18 = .ok (.if_icmp .le 5, 3) := by decide +kernel
theorem dX8_lg_21 : decode cX8_lg 21 = .ok (.iconst (-1), 1) := by decide +kernel
theorem dX8_lg_22 : decode cX8_lg 22 = .ok (.ireturn, 1) := by decide +kernel
theorem dX8_lg_23 : decode cX8_lg 23 = .ok (.iload_n 1, 1) := by decide +kernel
theorem dX8_lg_24 : decode cX8_lg 24 = .ok (.iload_n 2, 1) := by decide +kernel
theorem dX8_lg_25 : decode cX8_lg 25 = .ok (.invokestatic 200, 3) := by decide +kernel
theorem dX8_lg_28 : decode cX8_lg 28 = .ok (.ireturn, 1) := by decide +kernel
theorem dX8_undo_0 : decode cX8_undo 0 = .ok (.aload_n 0, 1) := by decide +kernel
theorem dX8_undo_1 : decode cX8_undo 1 = .ok (.getfield 23, 3) := by decide +kernel
theorem dX8_undo_4 : decode cX8_undo 4 = .ok (.iconst 1, 1) := by decide +kernel
theorem dX8_undo_5 : decode cX8_undo 5 = .ok (.if_icmp .lt 15, 3) := by decide +kernel
theorem dX8_undo_8 : decode cX8_undo 8 = .ok (.aload_n 0, 1) := by decide +kernel
theorem dX8_undo_9 : decode cX8_undo 9 = .ok (.getfield 23, 3) := by decide +kernel
theorem dX8_undo_12 : decode cX8_undo 12 = .ok (.aload_n 0, 1) := by decide +kernel
theorem dX8_undo_13 : decode cX8_undo 13 = .ok (.getfield 19, 3) := by decide +kernel
theorem dX8_undo_16 : decode cX8_undo 16 = .ok (.arraylength, 1) := by decide +kernel
theorem dX8_undo_17 : decode cX8_undo 17 = .ok (.if_icmp .le 6, 3) := by decide +kernel
theorem dX8_undo_20 : decode cX8_undo 20 = .ok (.bipush (-9), 2) := by decide +kernel
theorem dX8_undo_22 : decode cX8_undo 22 = .ok (.ireturn, 1) := by decide +kernel
theorem dX8_undo_23 : decode cX8_undo 23 = .ok (.aload_n 0, 1) := by decide +kernel
theorem dX8_undo_24 : decode cX8_undo 24 = .ok (.getfield 19, 3) := by decide +kernel
theorem dX8_undo_27 : decode cX8_undo 27 = .ok (.aload_n 0, 1) := by decide +kernel
theorem dX8_undo_28 : decode cX8_undo 28 = .ok (.getfield 23, 3) := by decide +kernel
theorem dX8_undo_31 : decode cX8_undo 31 = .ok (.iconst 1, 1) := by decide +kernel
theorem dX8_undo_32 : decode cX8_undo 32 = .ok (.isub, 1) := by decide +kernel
theorem dX8_undo_33 : decode cX8_undo 33 = .ok (.aaload, 1) := by decide +kernel
theorem dX8_undo_34 : decode cX8_undo 34 = .ok (.astore_n 1, 1) := by decide +kernel
theorem dX8_undo_35 : decode cX8_undo 35 = .ok (.aload_n 1, 1) := by decide +kernel
theorem dX8_undo_36 : decode cX8_undo 36 = .ok (.ifnonnull 6, 3) := by decide +kernel
theorem dX8_undo_39 : decode cX8_undo 39 = .ok (.bipush (-9), 2) := by decide +kernel
theorem dX8_undo_41 : decode cX8_undo 41 = .ok (.ireturn, 1) := by decide +kernel
theorem dX8_undo_42 : decode cX8_undo 42 = .ok (.aload_n 0, 1) := by decide +kernel
theorem dX8_undo_43 : decode cX8_undo 43 = .ok (.getfield 12, 3) := by decide +kernel
theorem dX8_undo_46 : decode cX8_undo 46 = .ok (.aload_n 1, 1) := by decide +kernel
theorem dX8_undo_47 : decode cX8_undo 47 = .ok (.invokevirtual 203, 3) := by decide +kernel
theorem dX8_undo_50 : decode cX8_undo 50 = .ok (.aload_n 0, 1) := by decide +kernel
theorem dX8_undo_51 : decode cX8_undo 51 = .ok (.dup, 1) := by decide +kernel
theorem dX8_undo_52 : decode cX8_undo 52 = .ok (.getfield 23, 3) := by decide +kernel
theorem dX8_undo_55 : decode cX8_undo 55 = .ok (.iconst 1, 1) := by decide +kernel
theorem dX8_undo_56 : decode cX8_undo 56 = .ok (.isub, 1) := by decide +kernel
theorem dX8_undo_57 : decode cX8_undo 57 = .ok (.putfield 23, 3) := by decide +kernel
theorem dX8_undo_60 : decode cX8_undo 60 = .ok (.aload_n 0, 1) := by decide +kernel
theorem dX8_undo_61 : decode cX8_undo 61 = .ok (.getfield 23, 3) := by decide +kernel
theorem dX8_undo_64 : decode cX8_undo 64 = .ok (.ireturn, 1) := by decide +kernel
theorem dX8_fingerprint_0 : decode cX8_fingerprint 0 = .ok (.ldc2_w 206, 3) := by decide +kernel
theorem dX8_fingerprint_3 : decode cX8_fingerprint 3 = .ok (.lstore_n 1, 1) := by decide +kernel
theorem dX8_fingerprint_4 : decode cX8_fingerprint 4 = .ok (.ldc2_w 208, 3) := by decide +kernel
theorem dX8_fingerprint_7 : decode cX8_fingerprint 7 = .ok (.lload_n 1, 1) := by decide +kernel
theorem dX8_fingerprint_8 : decode cX8_fingerprint 8 = .ok (.lmul, 1) := by decide +kernel
theorem dX8_fingerprint_9 : decode cX8_fingerprint 9 = .ok (.aload_n 0, 1) := by decide +kernel
theorem dX8_fingerprint_10 : decode cX8_fingerprint 10 = .ok (.getfield 12, 3) := by decide +kernel
theorem dX8_fingerprint_13 : decode cX8_fingerprint 13 = .ok (.getfield 73, 3) := by decide +kernel
theorem dX8_fingerprint_16 : decode cX8_fingerprint 16 = .ok (.i2l, 1) := by decide +kernel
theorem dX8_fingerprint_17 : decode cX8_fingerprint 17 = .ok (.ladd, 1) := by decide +kernel
theorem dX8_fingerprint_18 : decode cX8_fingerprint 18 = .ok (.lstore_n 1, 1) := by decide +kernel
theorem dX8_fingerprint_19 : decode cX8_fingerprint 19 = .ok (.ldc2_w 208, 3) := by decide +kernel
theorem dX8_fingerprint_22 : decode cX8_fingerprint 22 = .ok (.lload_n 1, 1) := by decide +kernel
theorem dX8_fingerprint_23 : decode cX8_fingerprint 23 = .ok (.lmul, 1) := by decide +kernel
theorem dX8_fingerprint_24 : decode cX8_fingerprint 24 = .ok (.aload_n 0, 1) := by decide +kernel
theorem dX8_fingerprint_25 : decode cX8_fingerprint 25 = .ok (.getfield 12, 3) := by decide +kernel
theorem dX8_fingerprint_28 : decode cX8_fingerprint 28 = .ok (.getfield 94, 3) := by decide +kernel
theorem dX8_fingerprint_31 : decode cX8_fingerprint 31 = .ok (.ifCond .eq 7, 3) := by decide +kernel
theorem dX8_fingerprint_34 : decode cX8_fingerprint 34 = .ok (.iconst 1, 1) := by decide +kernel
theorem dX8_fingerprint_35 : decode cX8_fingerprint 35 = .ok (.goto 4, 3) := by decide +kernel
theorem dX8_fingerprint_38 : decode cX8_fingerprint 38 = .ok (.iconst 0, 1) := by decide +kernel
theorem dX8_fingerprint_39 : decode cX8_fingerprint 39 = .ok (.i2l, 1) := by decide +kernel
theorem dX8_fingerprint_40 : decode cX8_fingerprint 40 = .ok (.ladd, 1) := by decide +kernel
theorem dX8_fingerprint_41 : decode cX8_fingerprint 41 = .ok (.lstore_n 1, 1) := by decide +kernel
theorem dX8_fingerprint_42 : decode cX8_fingerprint 42 = .ok (.ldc2_w 208, 3) := by decide +kernel
theorem dX8_fingerprint_45 : decode cX8_fingerprint 45 = .ok (.lload_n 1, 1) := by decide +kernel
theorem dX8_fingerprint_46 : decode cX8_fingerprint 46 = .ok (.lmul, 1) := by decide +kernel
theorem dX8_fingerprint_47 : decode cX8_fingerprint 47 = .ok (.aload_n 0, 1) := by decide +kernel
theorem dX8_fingerprint_48 : decode cX8_fingerprint 48 = .ok (.getfield 12, 3) := by decide +kernel
theorem dX8_fingerprint_51 : decode cX8_fingerprint 51 = .ok (.getfield 76, 3) := by decide +kernel
theorem dX8_fingerprint_54 : decode cX8_fingerprint 54 = .ok (.i2l, 1) := by decide +kernel
theorem dX8_fingerprint_55 : decode cX8_fingerprint 55 = .ok (.ladd, 1) := by decide +kernel
theorem dX8_fingerprint_56 : decode cX8_fingerprint 56 = .ok (.lstore_n 1, 1) := by decide +kernel
theorem dX8_fingerprint_57 : decode cX8_fingerprint 57 = .ok (.ldc2_w 208, 3) := by decide +kernel
theorem dX8_fingerprint_60 : decode cX8_fingerprint 60 = .ok (.lload_n 1, 1) := by decide +kernel
theorem dX8_fingerprint_61 : decode cX8_fingerprint 61 = .ok (.lmul, 1) := by decide +kernel
theorem dX8_fingerprint_62 : decode cX8_fingerprint 62 = .ok (.aload_n 0, 1) := by decide +kernel
theorem dX8_fingerprint_63 : decode cX8_fingerprint 63 = .ok (.getfield 12, 3) := by decide +kernel
theorem dX8_fingerprint_66 : decode cX8_fingerprint 66 = .ok (.getfield 79, 3) := by decide +kernel
theorem dX8_fingerprint_69 : decode cX8_fingerprint 69 = .ok (.i2l, 1) := by decide +kernel
theorem dX8_fingerprint_70 : decode cX8_fingerprint 70 = .ok (.ladd, 1) := by decide +kernel
theorem dX8_fingerprint_71 : decode cX8_fingerprint 71 = .ok (.lstore_n 1, 1) := by decide +kernel
theorem dX8_fingerprint_72 : decode cX8_fingerprint 72 = .ok (.ldc2_w 208, 3) := by decide +kernel
theorem dX8_fingerprint_75 : decode cX8_fingerprint 75 = .ok (.lload_n 1, 1) := by decide +kernel
theorem dX8_fingerprint_76 : decode cX8_fingerprint 76 = .ok (.lmul, 1) := by decide +kernel
theorem dX8_fingerprint_77 : decode cX8_fingerprint 77 = .ok (.aload_n 0, 1) := by decide +kernel
theorem dX8_fingerprint_78 : decode cX8_fingerprint 78 = .ok (.invokevirtual 98, 3) := by decide +kernel
theorem dX8_fingerprint_81 : decode cX8_fingerprint 81 = .ok (.i2l, 1) := by decide +kernel
theorem dX8_fingerprint_82 : decode cX8_fingerprint 82 = .ok (.ladd, 1) := by decide +kernel
theorem dX8_fingerprint_83 : decode cX8_fingerprint 83 = .ok (.lstore_n 1, 1) := by decide +kernel
theorem dX8_fingerprint_84 : decode cX8_fingerprint 84 = .ok (.ldc2_w 208, 3) := by decide +kernel
theorem dX8_fingerprint_87 : decode cX8_fingerprint 87 = .ok (.lload_n 1, 1) := by decide +kernel
theorem dX8_fingerprint_88 : decode cX8_fingerprint 88 = .ok (.lmul, 1) := by decide +kernel
theorem dX8_fingerprint_89 : decode cX8_fingerprint 89 = .ok (.aload_n 0, 1) := by decide +kernel
theorem dX8_fingerprint_90 : decode cX8_fingerprint 90 = .ok (.invokevirtual 210, 3) := by decide +kernel
theorem dX8_fingerprint_93 : decode cX8_fingerprint 93 = .ok (.i2l, 1) := by decide +kernel
theorem dX8_fingerprint_94 : decode cX8_fingerprint 94 = .ok (.ladd, 1) := by decide +kernel
theorem dX8_fingerprint_95 : decode cX8_fingerprint 95 = .ok (.lstore_n 1, 1) := by decide +kernel
theorem dX8_fingerprint_96 : decode cX8_fingerprint 96 = .ok (.iconst 0, 1) := by decide +kernel
theorem dX8_fingerprint_97 : decode cX8_fingerprint 97 = .ok (.istore_n 3, 1) := by decide +kernel
theorem dX8_fingerprint_98 : decode cX8_fingerprint 98 = .ok (.iload_n 3, 1) := by decide +kernel
theorem dX8_fingerprint_99 : decode cX8_fingerprint 99 = .ok (.aload_n 0, 1) := by decide +kernel
theorem dX8_fingerprint_100 : decode cX8_fingerprint 100 = .ok (.getfield 12, 3) := by decide +kernel
theorem dX8_fingerprint_103 : decode cX8_fingerprint 103 = .ok (.getfield 161, 3) := by decide +kernel
theorem dX8_fingerprint_106 : decode cX8_fingerprint 106 = .ok (.getfield 102, 3) := by decide +kernel
theorem dX8_fingerprint_109 : decode cX8_fingerprint 109 = .ok (.if_icmp .ge 28, 3) := by decide +kernel
theorem dX8_fingerprint_112 : decode cX8_fingerprint 112 = .ok (.ldc2_w 208, 3) := by decide +kernel
theorem dX8_fingerprint_115 : decode cX8_fingerprint 115 = .ok (.lload_n 1, 1) := by decide +kernel
theorem dX8_fingerprint_116 : decode cX8_fingerprint 116 = .ok (.lmul, 1) := by decide +kernel
theorem dX8_fingerprint_117 : decode cX8_fingerprint 117 = .ok (.aload_n 0, 1) := by decide +kernel
theorem dX8_fingerprint_118 : decode cX8_fingerprint 118 = .ok (.getfield 12, 3) := by decide +kernel
theorem dX8_fingerprint_121 : decode cX8_fingerprint 121 = .ok (.getfield 161, 3) := by decide +kernel
theorem dX8_fingerprint_124 : decode cX8_fingerprint 124 = .ok (.iload_n 3, 1) := by decide +kernel
theorem dX8_fingerprint_125 : decode cX8_fingerprint 125 = .ok (.invokevirtual 105, 3) := by decide +kernel
theorem dX8_fingerprint_128 : decode cX8_fingerprint 128 = .ok (.i2l, 1) := by decide +kernel
theorem dX8_fingerprint_129 : decode cX8_fingerprint 129 = .ok (.ladd, 1) := by decide +kernel
theorem dX8_fingerprint_130 : decode cX8_fingerprint 130 = .ok (.lstore_n 1, 1) := by decide +kernel
theorem dX8_fingerprint_131 : decode cX8_fingerprint 131 = .ok (.iinc 3 1, 3) := by decide +kernel
theorem dX8_fingerprint_134 : decode cX8_fingerprint 134 = .ok (.goto (-36), 3) := by decide +kernel
theorem dX8_fingerprint_137 : decode cX8_fingerprint 137 = .ok (.ldc2_w 208, 3) := by decide +kernel
theorem dX8_fingerprint_140 : decode cX8_fingerprint 140 = .ok (.lload_n 1, 1) := by decide +kernel
theorem dX8_fingerprint_141 : decode cX8_fingerprint 141 = .ok (.lmul, 1) := by decide +kernel
theorem dX8_fingerprint_142 : decode cX8_fingerprint 142 = .ok (.aload_n 0, 1) := by decide +kernel
theorem dX8_fingerprint_143 : decode cX8_fingerprint 143 = .ok (.invokevirtual 213, 3) := by decide +kernel
theorem dX8_fingerprint_146 : decode cX8_fingerprint 146 = .ok (.i2l, 1) := by decide +kernel
theorem dX8_fingerprint_147 : decode cX8_fingerprint 147 = .ok (.ladd, 1) := by decide +kernel
theorem dX8_fingerprint_148 : decode cX8_fingerprint 148 = .ok (.lstore_n 1, 1) := by decide +kernel
theorem dX8_fingerprint_149 : decode cX8_fingerprint 149 = .ok (.ldc2_w 208, 3) := by decide +kernel
theorem dX8_fingerprint_152 : decode cX8_fingerprint 152 = .ok (.lload_n 1, 1) := by decide +kernel
theorem dX8_fingerprint_153 : decode cX8_fingerprint 153 = .ok (.lmul, 1) := by decide +kernel
theorem dX8_fingerprint_154 : decode cX8_fingerprint 154 = .ok (.aload_n 0, 1) := by decide +kernel
theorem dX8_fingerprint_155 : decode cX8_fingerprint 155 = .ok (.invokevirtual 216, 3) := by decide +kernel
theorem dX8_fingerprint_158 : decode cX8_fingerprint 158 = .ok (.i2l, 1) := by decide +kernel
theorem dX8_fingerprint_159 : decode cX8_fingerprint 159 = .ok (.ladd, 1) := by decide +kernel
theorem dX8_fingerprint_160 : decode cX8_fingerprint 160 = .ok (.lstore_n 1, 1) := by decide +kernel
theorem dX8_fingerprint_161 : decode cX8_fingerprint 161 = .ok (.ldc2_w 208, 3) := by decide +kernel
theorem dX8_fingerprint_164 : decode cX8_fingerprint 164 = .ok (.lload_n 1, 1) := by decide +kernel
theorem dX8_fingerprint_165 : decode cX8_fingerprint 165 = .ok (.lmul, 1) := by decide +kernel
theorem dX8_fingerprint_166 : decode cX8_fingerprint 166 = .ok (.aload_n 0, 1) := by decide +kernel
theorem dX8_fingerprint_167 : decode cX8_fingerprint 167 = .ok (.getfield 12, 3) := by decide +kernel
theorem dX8_fingerprint_170 : decode cX8_fingerprint 170 = .ok (.getfield 176, 3) := by decide +kernel
theorem dX8_fingerprint_173 : decode cX8_fingerprint 173 = .ok (.getfield 102, 3) := by decide +kernel
theorem dX8_fingerprint_176 : decode cX8_fingerprint 176 = .ok (.i2l, 1) := by decide +kernel
theorem dX8_fingerprint_177 : decode cX8_fingerprint 177 = .ok (.ladd, 1) := by decide +kernel
theorem dX8_fingerprint_178 : decode cX8_fingerprint 178 = .ok (.lstore_n 1, 1) := by decide +kernel
theorem dX8_fingerprint_179 : decode cX8_fingerprint 179 = .ok (.iconst 0, 1) := by decide +kernel
theorem dX8_fingerprint_180 : decode cX8_fingerprint 180 = .ok (.istore_n 3, 1) := by decide +kernel
theorem dX8_fingerprint_181 : decode cX8_fingerprint 181 = .ok (.iload_n 3, 1) := by decide +kernel
theorem dX8_fingerprint_182 : decode cX8_fingerprint 182 = .ok (.aload_n 0, 1) := by decide +kernel
theorem dX8_fingerprint_183 : decode cX8_fingerprint 183 = .ok (.getfield 12, 3) := by decide +kernel
theorem dX8_fingerprint_186 : decode cX8_fingerprint 186 = .ok (.getfield 176, 3) := by decide +kernel
theorem dX8_fingerprint_189 : decode cX8_fingerprint 189 = .ok (.getfield 102, 3) := by decide +kernel
theorem dX8_fingerprint_192 : decode cX8_fingerprint 192 = .ok (.if_icmp .ge 32, 3) := by decide +kernel
theorem dX8_fingerprint_195 : decode cX8_fingerprint 195 = .ok (.ldc2_w 208, 3) := by decide +kernel
theorem dX8_fingerprint_198 : decode cX8_fingerprint 198 = .ok (.lload_n 1, 1) := by decide +kernel
theorem dX8_fingerprint_199 : decode cX8_fingerprint 199 = .ok (.lmul, 1) := by decide +kernel
theorem dX8_fingerprint_200 : decode cX8_fingerprint 200 = .ok (.aload_n 0, 1) := by decide +kernel
theorem dX8_fingerprint_201 : decode cX8_fingerprint 201 = .ok (.getfield 12, 3) := by decide +kernel
theorem dX8_fingerprint_204 : decode cX8_fingerprint 204 = .ok (.getfield 176, 3) := by decide +kernel
theorem dX8_fingerprint_207 : decode cX8_fingerprint 207 = .ok (.iload_n 3, 1) := by decide +kernel
theorem dX8_fingerprint_208 : decode cX8_fingerprint 208 = .ok (.invokevirtual 105, 3) := by decide +kernel
theorem dX8_fingerprint_211 : decode cX8_fingerprint 211 = .ok (.i2l, 1) := by decide +kernel
theorem dX8_fingerprint_212 : decode cX8_fingerprint 212 = .ok (.ladd, 1) := by decide +kernel
theorem dX8_fingerprint_213 : decode cX8_fingerprint 213 = .ok (.ldc2_w 219, 3) := by decide +kernel
theorem dX8_fingerprint_216 : decode cX8_fingerprint 216 = .ok (.ladd, 1) := by decide +kernel
theorem dX8_fingerprint_217 : decode cX8_fingerprint 217 = .ok (.lstore_n 1, 1) := by decide +kernel
theorem dX8_fingerprint_218 : decode cX8_fingerprint 218 = .ok (.iinc 3 1, 3) := by decide +kernel
theorem dX8_fingerprint_221 : decode cX8_fingerprint 221 = .ok (.goto (-40), 3) := by decide +kernel
theorem dX8_fingerprint_224 : decode cX8_fingerprint 224 = .ok (.lload_n 1, 1) := by decide +kernel
theorem dX8_fingerprint_225 : decode cX8_fingerprint 225 = .ok (.lreturn, 1) := by decide +kernel
theorem dX8_remember_0 : decode cX8_remember 0 = .ok (.aload_n 0, 1) := by decide +kernel
theorem dX8_remember_1 : decode cX8_remember 1 = .ok (.getfield 23, 3) := by decide +kernel
theorem dX8_remember_4 : decode cX8_remember 4 = .ok (.aload_n 0, 1) := by decide +kernel
theorem dX8_remember_5 : decode cX8_remember 5 = .ok (.getfield 19, 3) := by decide +kernel
theorem dX8_remember_8 : decode cX8_remember 8 = .ok (.arraylength, 1) := by decide +kernel
theorem dX8_remember_9 : decode cX8_remember 9 = .ok (.if_icmp .lt 7, 3) := by decide +kernel
theorem dX8_remember_12 : decode cX8_remember 12 = .ok (.aload_n 0, 1) := by decide +kernel
theorem dX8_remember_13 : decode cX8_remember 13 = .ok (.invokevirtual 221, 3) := by decide +kernel
theorem dX8_remember_16 : decode cX8_remember 16 = .ok (.aload_n 0, 1) := by decide +kernel
theorem dX8_remember_17 : decode cX8_remember 17 = .ok (.getfield 23, 3) := by decide +kernel
theorem dX8_remember_20 : decode cX8_remember 20 = .ok (.ifCond .lt 15, 3) := by decide +kernel
theorem dX8_remember_23 : decode cX8_remember 23 = .ok (.aload_n 0, 1) := by decide +kernel
theorem dX8_remember_24 : decode cX8_remember 24 = .ok (.getfield 23, 3) := by decide +kernel
theorem dX8_remember_27 : decode cX8_remember 27 = .ok (.aload_n 0, 1) := by decide +kernel
theorem dX8_remember_28 : decode cX8_remember 28 = .ok (.getfield 19, 3) := by decide +kernel
theorem dX8_remember_31 : decode cX8_remember 31 = .ok (.arraylength, 1) := by decide +kernel
theorem dX8_remember_32 : decode cX8_remember 32 = .ok (.if_icmp .lt 4, 3) := by decide +kernel
theorem dX8_remember_35 : decode cX8_remember 35 = .ok (.return_, 1) := by decide +kernel
theorem dX8_remember_36 : decode cX8_remember 36 = .ok (.aload_n 0, 1) := by decide +kernel
theorem dX8_remember_37 : decode cX8_remember 37 = .ok (.getfield 19, 3) := by decide +kernel
theorem dX8_remember_40 : decode cX8_remember 40 = .ok (.aload_n 0, 1) := by decide +kernel
theorem dX8_remember_41 : decode cX8_remember 41 = .ok (.getfield 23, 3) := by decide +kernel
theorem dX8_remember_44 : decode cX8_remember 44 = .ok (.aaload, 1) := by decide +kernel
theorem dX8_remember_45 : decode cX8_remember 45 = .ok (.astore_n 1, 1) := by decide +kernel
theorem dX8_remember_46 : decode cX8_remember 46 = .ok (.aload_n 1, 1) := by decide +kernel
theorem dX8_remember_47 : decode cX8_remember 47 = .ok (.ifnull 21, 3) := by decide +kernel
theorem dX8_remember_50 : decode cX8_remember 50 = .ok (.aload_n 1, 1) := by decide +kernel
theorem dX8_remember_51 : decode cX8_remember 51 = .ok (.aload_n 0, 1) := by decide +kernel
theorem dX8_remember_52 : decode cX8_remember 52 = .ok (.getfield 12, 3) := by decide +kernel
theorem dX8_remember_55 : decode cX8_remember 55 = .ok (.invokevirtual 203, 3) := by decide +kernel
theorem dX8_remember_58 : decode cX8_remember 58 = .ok (.aload_n 0, 1) := by decide +kernel
theorem dX8_remember_59 : decode cX8_remember 59 = .ok (.dup, 1) := by decide +kernel
theorem dX8_remember_60 : decode cX8_remember 60 = .ok (.getfield 23, 3) := by decide +kernel
theorem dX8_remember_63 : decode cX8_remember 63 = .ok (.iconst 1, 1) := by decide +kernel
theorem dX8_remember_64 : decode cX8_remember 64 = .ok (.iadd, 1) := by decide +kernel
theorem dX8_remember_65 : decode cX8_remember 65 = .ok (.putfield 23, 3) := by decide +kernel
theorem dX8_remember_68 : decode cX8_remember 68 = .ok (.return_, 1) := by decide +kernel
theorem dX8_rollPast_0 : decode cX8_rollPast 0 = .ok (.iconst 1, 1) := by decide +kernel
theorem dX8_rollPast_1 : decode cX8_rollPast 1 = .ok (.istore_n 1, 1) := by decide +kernel
theorem dX8_rollPast_2 : decode cX8_rollPast 2 = .ok (.iload_n 1, 1) := by decide +kernel
theorem dX8_rollPast_3 : decode cX8_rollPast 3 = .ok (.aload_n 0, 1) := by decide +kernel
theorem dX8_rollPast_4 : decode cX8_rollPast 4 = .ok (.getfield 19, 3) := by decide +kernel
theorem dX8_rollPast_7 : decode cX8_rollPast 7 = .ok (.arraylength, 1) := by decide +kernel
theorem dX8_rollPast_8 : decode cX8_rollPast 8 = .ok (.if_icmp .ge 39, 3) := by decide +kernel
theorem dX8_rollPast_11 : decode cX8_rollPast 11 = .ok (.aload_n 0, 1) := by decide +kernel
theorem dX8_rollPast_12 : decode cX8_rollPast 12 = .ok (.getfield 19, 3) := by decide +kernel
theorem dX8_rollPast_15 : decode cX8_rollPast 15 = .ok (.iload_n 1, 1) := by decide +kernel
theorem dX8_rollPast_16 : decode cX8_rollPast 16 = .ok (.iconst 1, 1) := by decide +kernel
theorem dX8_rollPast_17 : decode cX8_rollPast 17 = .ok (.isub, 1) := by decide +kernel
theorem dX8_rollPast_18 : decode cX8_rollPast 18 = .ok (.aaload, 1) := by decide +kernel
theorem dX8_rollPast_19 : decode cX8_rollPast 19 = .ok (.astore_n 2, 1) := by decide +kernel
theorem dX8_rollPast_20 : decode cX8_rollPast 20 = .ok (.aload_n 0, 1) := by decide +kernel
theorem dX8_rollPast_21 : decode cX8_rollPast 21 = .ok (.getfield 19, 3) := by decide +kernel
theorem dX8_rollPast_24 : decode cX8_rollPast 24 = .ok (.iload_n 1, 1) := by decide +kernel
theorem dX8_rollPast_25 : decode cX8_rollPast 25 = .ok (.iconst 1, 1) := by decide +kernel
theorem dX8_rollPast_26 : decode cX8_rollPast 26 = .ok (.isub, 1) := by decide +kernel
theorem dX8_rollPast_27 : decode cX8_rollPast 27 = .ok (.aload_n 0, 1) := by decide +kernel
theorem dX8_rollPast_28 : decode cX8_rollPast 28 = .ok (.getfield 19, 3) := by decide +kernel
theorem dX8_rollPast_31 : decode cX8_rollPast 31 = .ok (.iload_n 1, 1) := by decide +kernel
theorem dX8_rollPast_32 : decode cX8_rollPast 32 = .ok (.aaload, 1) := by decide +kernel
theorem dX8_rollPast_33 : decode cX8_rollPast 33 = .ok (.aastore, 1) := by decide +kernel
theorem dX8_rollPast_34 : decode cX8_rollPast 34 = .ok (.aload_n 0, 1) := by decide +kernel
theorem dX8_rollPast_35 : decode cX8_rollPast 35 = .ok (.getfield 19, 3) := by decide +kernel
theorem dX8_rollPast_38 : decode cX8_rollPast 38 = .ok (.iload_n 1, 1) := by decide +kernel
theorem dX8_rollPast_39 : decode cX8_rollPast 39 = .ok (.aload_n 2, 1) := by decide +kernel
theorem dX8_rollPast_40 : decode cX8_rollPast 40 = .ok (.aastore, 1) := by decide +kernel
theorem dX8_rollPast_41 : decode cX8_rollPast 41 = .ok (.iinc 1 1, 3) := by decide +kernel
theorem dX8_rollPast_44 : decode cX8_rollPast 44 = .ok (.goto (-42), 3) := by decide +kernel
theorem dX8_rollPast_47 : decode cX8_rollPast 47 = .ok (.aload_n 0, 1) := by decide +kernel
theorem dX8_rollPast_48 : decode cX8_rollPast 48 = .ok (.aload_n 0, 1) := by decide +kernel
theorem dX8_rollPast_49 : decode cX8_rollPast 49 = .ok (.getfield 19, 3) := by decide +kernel
theorem dX8_rollPast_52 : decode cX8_rollPast 52 = .ok (.arraylength, 1) := by decide +kernel
theorem dX8_rollPast_53 : decode cX8_rollPast 53 = .ok (.iconst 1, 1) := by decide +kernel
theorem dX8_rollPast_54 : decode cX8_rollPast 54 = .ok (.isub, 1) := by decide +kernel
theorem dX8_rollPast_55 : decode cX8_rollPast 55 = .ok (.putfield 23, 3) := by decide +kernel
theorem dX8_rollPast_58 : decode cX8_rollPast 58 = .ok (.return_, 1) := by decide +kernel
theorem dX8_lastContext_0 : decode cX8_lastContext 0 = .ok (.iload_n 1, 1) := by decide +kernel
theorem dX8_lastContext_1 : decode cX8_lastContext 1 = .ok (.aload_n 0, 1) := by decide +kernel
theorem dX8_lastContext_2 : decode cX8_lastContext 2 = .ok (.getfield 32, 3) := by decide +kernel
theorem dX8_lastContext_5 : decode cX8_lastContext 5 = .ok (.getfield 102, 3) := by decide +kernel
theorem dX8_lastContext_8 : decode cX8_lastContext 8 = .ok (.if_icmp .le 7, 3) := by decide +kernel
theorem dX8_lastContext_11 : decode cX8_lastContext 11 = .ok (.iconst (-1), 1) := by decide +kernel
theorem dX8_lastContext_12 : decode cX8_lastContext 12 = .ok (.goto 28, 3) := by decide +kernel
theorem dX8_lastContext_15 : decode cX8_lastContext 15 = .ok (.aload_n 0, 1) := by decide +kernel
theorem dX8_lastContext_16 : decode cX8_lastContext 16 = .ok (.getfield 12, 3) := by decide +kernel
theorem dX8_lastContext_19 : decode cX8_lastContext 19 = .ok (.getfield 85, 3) := by decide +kernel
theorem dX8_lastContext_22 : decode cX8_lastContext 22 = .ok (.aload_n 0, 1) := by decide +kernel
theorem dX8_lastContext_23 : decode cX8_lastContext 23 = .ok (.getfield 32, 3) := by decide +kernel
theorem dX8_lastContext_26 : decode cX8_lastContext 26 = .ok (.aload_n 0, 1) := by decide +kernel
theorem dX8_lastContext_27 : decode cX8_lastContext 27 = .ok (.getfield 32, 3) := by decide +kernel
theorem dX8_lastContext_30 : decode cX8_lastContext 30 = .ok (.getfield 102, 3) := by decide +kernel
theorem dX8_lastContext_33 : decode cX8_lastContext 33 = .ok (.iload_n 1, 1) := by decide +kernel
theorem dX8_lastContext_34 : decode cX8_lastContext 34 = .ok (.invokestatic 224, 3) := by decide +kernel
theorem dX8_lastContext_37 : decode cX8_lastContext 37 = .ok (.invokevirtual 228, 3) := by decide +kernel
theorem dX8_lastContext_40 : decode cX8_lastContext 40 = .ok (.ireturn, 1) := by decide +kernel
theorem dX8_codeOnTrial_0 : decode cX8_codeOnTrial 0 = .ok (.aload_n 0, 1) := by decide +kernel
theorem dX8_codeOnTrial_1 : decode cX8_codeOnTrial 1 = .ok (.getfield 16, 3) := by decide +kernel
theorem dX8_codeOnTrial_4 : decode cX8_codeOnTrial 4 = .ok (.aload_n 0, 1) := by decide +kernel
theorem dX8_codeOnTrial_5 : decode cX8_codeOnTrial 5 = .ok (.getfield 12, 3) := by decide +kernel
theorem dX8_codeOnTrial_8 : decode cX8_codeOnTrial 8 = .ok (.invokevirtual 231, 3) := by decide +kernel
theorem dX8_codeOnTrial_11 : decode cX8_codeOnTrial 11 = .ok (.aload_n 0, 1) := by decide +kernel
theorem dX8_codeOnTrial_12 : decode cX8_codeOnTrial 12 = .ok (.getfield 16, 3) := by decide +kernel
theorem dX8_codeOnTrial_15 : decode cX8_codeOnTrial 15 = .ok (.getfield 85, 3) := by decide +kernel
theorem dX8_codeOnTrial_18 : decode cX8_codeOnTrial 18 = .ok (.aload_n 0, 1) := by decide +kernel
theorem dX8_codeOnTrial_19 : decode cX8_codeOnTrial 19 = .ok (.getfield 12, 3) := by decide +kernel
theorem dX8_codeOnTrial_22 : decode cX8_codeOnTrial 22 = .ok (.getfield 85, 3) := by decide +kernel
theorem dX8_codeOnTrial_25 : decode cX8_codeOnTrial 25 = .ok (.invokevirtual 148, 3) := by decide +kernel
theorem dX8_codeOnTrial_28 : decode cX8_codeOnTrial 28 = .ok (.aload_n 0, 1) := by decide +kernel
theorem dX8_codeOnTrial_29 : decode cX8_codeOnTrial 29 = .ok (.getfield 16, 3) := by decide +kernel
theorem dX8_codeOnTrial_32 : decode cX8_codeOnTrial 32 = .ok (.getfield 152, 3) := by decide +kernel
theorem dX8_codeOnTrial_35 : decode cX8_codeOnTrial 35 = .ok (.invokevirtual 234, 3) := by decide +kernel
theorem dX8_codeOnTrial_38 : decode cX8_codeOnTrial 38 = .ok (.aload_n 0, 1) := by decide +kernel
theorem dX8_codeOnTrial_39 : decode cX8_codeOnTrial 39 = .ok (.getfield 53, 3) := by decide +kernel
theorem dX8_codeOnTrial_42 : decode cX8_codeOnTrial 42 = .ok (.invokevirtual 235, 3) := by decide +kernel
theorem dX8_codeOnTrial_45 : decode cX8_codeOnTrial 45 = .ok (.iconst 0, 1) := by decide +kernel
theorem dX8_codeOnTrial_46 : decode cX8_codeOnTrial 46 = .ok (.istore_n 2, 1) := by decide +kernel
theorem dX8_codeOnTrial_47 : decode cX8_codeOnTrial 47 = .ok (.iload_n 2, 1) := by decide +kernel
theorem dX8_codeOnTrial_48 : decode cX8_codeOnTrial 48 = .ok (.aload_n 1, 1) := by decide +kernel
theorem dX8_codeOnTrial_49 : decode cX8_codeOnTrial 49 = .ok (.getfield 102, 3) := by decide +kernel
theorem dX8_codeOnTrial_52 : decode cX8_codeOnTrial 52 = .ok (.if_icmp .ge 20, 3) := by decide +kernel
theorem dX8_codeOnTrial_55 : decode cX8_codeOnTrial 55 = .ok (.aload_n 0, 1) := by decide +kernel
theorem dX8_codeOnTrial_56 : decode cX8_codeOnTrial 56 = .ok (.aload_n 1, 1) := by decide +kernel
theorem dX8_codeOnTrial_57 : decode cX8_codeOnTrial 57 = .ok (.iload_n 2, 1) := by decide +kernel
theorem dX8_codeOnTrial_58 : decode cX8_codeOnTrial 58 = .ok (.aload_n 1, 1) := by decide +kernel
theorem dX8_codeOnTrial_59 : decode cX8_codeOnTrial 59 = .ok (.iload_n 2, 1) := by decide +kernel
theorem dX8_codeOnTrial_60 : decode cX8_codeOnTrial 60 = .ok (.invokevirtual 105, 3) := by decide +kernel
theorem dX8_codeOnTrial_63 : decode cX8_codeOnTrial 63 = .ok (.invokevirtual 238, 3) := by decide +kernel
theorem dX8_codeOnTrial_66 : decode cX8_codeOnTrial 66 = .ok (.iinc 2 1, 3) := by decide +kernel
theorem dX8_codeOnTrial_69 : decode cX8_codeOnTrial 69 = .ok (.goto (-22), 3) := by decide +kernel
theorem dX8_codeOnTrial_72 : decode cX8_codeOnTrial 72 = .ok (.aload_n 0, 1) := by decide +kernel
theorem dX8_codeOnTrial_73 : decode cX8_codeOnTrial 73 = .ok (.aload_n 1, 1) := by decide +kernel
theorem dX8_codeOnTrial_74 : decode cX8_codeOnTrial 74 = .ok (.aload_n 1, 1) := by decide +kernel
theorem dX8_codeOnTrial_75 : decode cX8_codeOnTrial 75 = .ok (.getfield 102, 3) := by decide +kernel
theorem dX8_codeOnTrial_78 : decode cX8_codeOnTrial 78 = .ok (.bipush 95, 2) := by decide +kernel
theorem dX8_codeOnTrial_80 : decode cX8_codeOnTrial 80 = .ok (.invokevirtual 238, 3) := by decide +kernel
theorem dX8_codeOnTrial_83 : decode cX8_codeOnTrial 83 = .ok (.aload_n 1, 1) := by decide +kernel
theorem dX8_codeOnTrial_84 : decode cX8_codeOnTrial 84 = .ok (.invokestatic 241, 3) := by decide +kernel
theorem dX8_codeOnTrial_87 : decode cX8_codeOnTrial 87 = .ok (.istore_n 2, 1) := by decide +kernel
theorem dX8_codeOnTrial_88 : decode cX8_codeOnTrial 88 = .ok (.aload_n 0, 1) := by decide +kernel
theorem dX8_codeOnTrial_89 : decode cX8_codeOnTrial 89 = .ok (.getfield 53, 3) := by decide +kernel
theorem dX8_codeOnTrial_92 : decode cX8_codeOnTrial 92 = .ok (.iload_n 2, 1) := by decide +kernel
theorem dX8_codeOnTrial_93 : decode cX8_codeOnTrial 93 = .ok (.iload_n 2, 1) := by decide +kernel
theorem dX8_codeOnTrial_94 : decode cX8_codeOnTrial 94 = .ok (.iconst 1, 1) := by decide +kernel
theorem dX8_codeOnTrial_95 : decode cX8_codeOnTrial 95 = .ok (.iadd, 1) := by decide +kernel
theorem dX8_codeOnTrial_96 : decode cX8_codeOnTrial 96 = .ok (.ldc 245, 2) := by decide +kernel
theorem dX8_codeOnTrial_98 : decode cX8_codeOnTrial 98 = .ok (.invokevirtual 246, 3) := by decide +kernel
theorem dX8_codeOnTrial_101 : decode cX8_codeOnTrial 101 = .ok (.aload_n 0, 1) := by decide +kernel
theorem dX8_codeOnTrial_102 : decode cX8_codeOnTrial 102 = .ok (.getfield 53, 3) := by decide +kernel
theorem dX8_codeOnTrial_105 : decode cX8_codeOnTrial 105 = .ok (.invokevirtual 250, 3) := by decide +kernel
theorem dX8_codeOnTrial_108 : decode cX8_codeOnTrial 108 = .ok (.aload_n 0, 1) := by decide +kernel
theorem dX8_codeOnTrial_109 : decode cX8_codeOnTrial 109 = .ok (.getfield 16, 3) := by decide +kernel
theorem dX8_codeOnTrial_112 : decode cX8_codeOnTrial 112 = .ok (.getfield 152, 3) := by decide +kernel
theorem dX8_codeOnTrial_115 : decode cX8_codeOnTrial 115 = .ok (.aload_n 0, 1) := by decide +kernel
theorem dX8_codeOnTrial_116 : decode cX8_codeOnTrial 116 = .ok (.getfield 53, 3) := by decide +kernel
theorem dX8_codeOnTrial_119 : decode cX8_codeOnTrial 119 = .ok (.getfield 253, 3) := by decide +kernel
theorem dX8_codeOnTrial_122 : decode cX8_codeOnTrial 122 = .ok (.putfield 170, 3) := by decide +kernel
theorem dX8_codeOnTrial_125 : decode cX8_codeOnTrial 125 = .ok (.return_, 1) := by decide +kernel
theorem dX8_codeSymbol_0 : decode cX8_codeSymbol 0 = .ok (.aload_n 0, 1) := by decide +kernel
theorem dX8_codeSymbol_1 : decode cX8_codeSymbol 1 = .ok (.aload_n 0, 1) := by decide +kernel
theorem dX8_codeSymbol_2 : decode cX8_codeSymbol 2 = .ok (.getfield 16, 3) := by decide +kernel
theorem dX8_codeSymbol_5 : decode cX8_codeSymbol 5 = .ok (.aload_n 1, 1) := by decide +kernel
theorem dX8_codeSymbol_6 : decode cX8_codeSymbol 6 = .ok (.iload_n 2, 1) := by decide +kernel
theorem dX8_codeSymbol_7 : decode cX8_codeSymbol 7 = .ok (.iload_n 3, 1) := by decide +kernel
theorem dX8_codeSymbol_8 : decode cX8_codeSymbol 8 = .ok (.invokevirtual 125, 3) := by decide +kernel
theorem dX8_codeSymbol_11 : decode cX8_codeSymbol 11 = .ok (.iconst 0, 1) := by decide +kernel
theorem dX8_codeSymbol_12 : decode cX8_codeSymbol 12 = .ok (.istore 4, 2) := by decide +kernel
theorem dX8_codeSymbol_14 : decode cX8_codeSymbol 14 = .ok (.iload 4, 2) := by decide +kernel
theorem dX8_codeSymbol_16 : decode cX8_codeSymbol 16 = .ok (.aload_n 0, 1) := by decide +kernel
theorem dX8_codeSymbol_17 : decode cX8_codeSymbol 17 = .ok (.getfield 46, 3) := by decide +kernel
theorem dX8_codeSymbol_20 : decode cX8_codeSymbol 20 = .ok (.invokevirtual 254, 3) := by decide +kernel
theorem dX8_codeSymbol_23 : decode cX8_codeSymbol 23 = .ok (.if_icmp .ge 52, 3) := by decide +kernel
theorem dX8_codeSymbol_26 : decode cX8_codeSymbol 26 = .ok (.aload_n 0, 1) := by decide +kernel
theorem dX8_codeSymbol_27 : decode cX8_codeSymbol 27 = .ok (.getfield 53, 3) := by decide +kernel
theorem dX8_codeSymbol_30 : decode cX8_codeSymbol 30 = .ok (.aload_n 0, 1) := by decide +kernel
theorem dX8_codeSymbol_31 : decode cX8_codeSymbol 31 = .ok (.getfield 46, 3) := by decide +kernel
theorem dX8_codeSymbol_34 : decode cX8_codeSymbol 34 = .ok (.getfield 256, 3) := by decide +kernel
theorem dX8_codeSymbol_37 : decode cX8_codeSymbol 37 = .ok (.iload 4, 2) := by decide +kernel
theorem dX8_codeSymbol_39 : decode cX8_codeSymbol 39 = .ok (.invokevirtual 105, 3) := by decide +kernel
theorem dX8_codeSymbol_42 : decode cX8_codeSymbol 42 = .ok (.aload_n 0, 1) := by decide +kernel
theorem dX8_codeSymbol_43 : decode cX8_codeSymbol 43 = .ok (.getfield 46, 3) := by decide +kernel
theorem dX8_codeSymbol_46 : decode cX8_codeSymbol 46 = .ok (.getfield 259, 3) := by decide +kernel
theorem dX8_codeSymbol_49 : decode cX8_codeSymbol 49 = .ok (.iload 4, 2) := by decide +kernel
theorem dX8_codeSymbol_51 : decode cX8_codeSymbol 51 = .ok (.invokevirtual 105, 3) := by decide +kernel
theorem dX8_codeSymbol_54 : decode cX8_codeSymbol 54 = .ok (.aload_n 0, 1) := by decide +kernel
theorem dX8_codeSymbol_55 : decode cX8_codeSymbol 55 = .ok (.getfield 46, 3) := by decide +kernel
theorem dX8_codeSymbol_58 : decode cX8_codeSymbol 58 = .ok (.getfield 262, 3) := by decide +kernel
theorem dX8_codeSymbol_61 : decode cX8_codeSymbol 61 = .ok (.iload 4, 2) := by decide +kernel
theorem dX8_codeSymbol_63 : decode cX8_codeSymbol 63 = .ok (.invokevirtual 105, 3) := by decide +kernel
theorem dX8_codeSymbol_66 : decode cX8_codeSymbol 66 = .ok (.invokevirtual 246, 3) := by decide +kernel
theorem dX8_codeSymbol_69 : decode cX8_codeSymbol 69 = .ok (.iinc 4 1, 3) := by decide +kernel
theorem dX8_codeSymbol_72 : decode cX8_codeSymbol 72 = .ok (.goto (-58), 3) := by decide +kernel
theorem dX8_codeSymbol_75 : decode cX8_codeSymbol 75 = .ok (.aload_n 0, 1) := by decide +kernel
theorem dX8_codeSymbol_76 : decode cX8_codeSymbol 76 = .ok (.getfield 16, 3) := by decide +kernel
theorem dX8_codeSymbol_79 : decode cX8_codeSymbol 79 = .ok (.getfield 152, 3) := by decide +kernel
theorem dX8_codeSymbol_82 : decode cX8_codeSymbol 82 = .ok (.aload_n 0, 1) := by decide +kernel
theorem dX8_codeSymbol_83 : decode cX8_codeSymbol 83 = .ok (.getfield 46, 3) := by decide +kernel
theorem dX8_codeSymbol_86 : decode cX8_codeSymbol 86 = .ok (.invokevirtual 129, 3) := by decide +kernel
theorem dX8_codeSymbol_89 : decode cX8_codeSymbol 89 = .ok (.aload_n 0, 1) := by decide +kernel
theorem dX8_codeSymbol_90 : decode cX8_codeSymbol 90 = .ok (.getfield 46, 3) := by decide +kernel
theorem dX8_codeSymbol_93 : decode cX8_codeSymbol 93 = .ok (.invokevirtual 254, 3) := by decide +kernel
theorem dX8_codeSymbol_96 : decode cX8_codeSymbol 96 = .ok (.iconst 1, 1) := by decide +kernel
theorem dX8_codeSymbol_97 : decode cX8_codeSymbol 97 = .ok (.isub, 1) := by decide +kernel
theorem dX8_codeSymbol_98 : decode cX8_codeSymbol 98 = .ok (.aload_n 0, 1) := by decide +kernel
theorem dX8_codeSymbol_99 : decode cX8_codeSymbol 99 = .ok (.getfield 46, 3) := by decide +kernel
theorem dX8_codeSymbol_102 : decode cX8_codeSymbol 102 = .ok (.getfield 265, 3) := by decide +kernel
theorem dX8_codeSymbol_105 : decode cX8_codeSymbol 105 = .ok (.iload_n 3, 1) := by decide +kernel
theorem dX8_codeSymbol_106 : decode cX8_codeSymbol 106 = .ok (.invokevirtual 266, 3) := by decide +kernel
theorem dX8_codeSymbol_109 : decode cX8_codeSymbol 109 = .ok (.aload_n 0, 1) := by decide +kernel
theorem dX8_codeSymbol_110 : decode cX8_codeSymbol 110 = .ok (.getfield 16, 3) := by decide +kernel
theorem dX8_codeSymbol_113 : decode cX8_codeSymbol 113 = .ok (.aload_n 1, 1) := by decide +kernel
theorem dX8_codeSymbol_114 : decode cX8_codeSymbol 114 = .ok (.iload_n 2, 1) := by decide +kernel
theorem dX8_codeSymbol_115 : decode cX8_codeSymbol 115 = .ok (.iload_n 3, 1) := by decide +kernel
theorem dX8_codeSymbol_116 : decode cX8_codeSymbol 116 = .ok (.invokevirtual 109, 3) := by decide +kernel
theorem dX8_codeSymbol_119 : decode cX8_codeSymbol 119 = .ok (.return_, 1) := by decide +kernel
theorem dX8_plan_0 : decode cX8_plan 0 = .ok (.aload_n 0, 1) := by decide +kernel
theorem dX8_plan_1 : decode cX8_plan 1 = .ok (.getfield 46, 3) := by decide +kernel
theorem dX8_plan_4 : decode cX8_plan 4 = .ok (.invokevirtual 270, 3) := by decide +kernel
theorem dX8_plan_7 : decode cX8_plan 7 = .ok (.aload_n 0, 1) := by decide +kernel
theorem dX8_plan_8 : decode cX8_plan 8 = .ok (.getfield 39, 3) := by decide +kernel
theorem dX8_plan_11 : decode cX8_plan 11 = .ok (.invokevirtual 271, 3) := by decide +kernel
theorem dX8_plan_14 : decode cX8_plan 14 = .ok (.aload_n 1, 1) := by decide +kernel
theorem dX8_plan_15 : decode cX8_plan 15 = .ok (.getfield 73, 3) := by decide +kernel
theorem dX8_plan_18 : decode cX8_plan 18 = .ok (.iload_n 3, 1) := by decide +kernel
theorem dX8_plan_19 : decode cX8_plan 19 = .ok (.invokestatic 64, 3) := by decide +kernel
theorem dX8_plan_22 : decode cX8_plan 22 = .ok (.istore 5, 2) := by decide +kernel
theorem dX8_plan_24 : decode cX8_plan 24 = .ok (.iload 5, 2) := by decide +kernel
theorem dX8_plan_26 : decode cX8_plan 26 = .ok (.ifCond .lt 155, 3) := by decide +kernel
theorem dX8_plan_29 : decode cX8_plan 29 = .ok (.aload_n 1, 1) := by decide +kernel
theorem dX8_plan_30 : decode cX8_plan 30 = .ok (.getfield 85, 3) := by decide +kernel
theorem dX8_plan_33 : decode cX8_plan 33 = .ok (.aload_n 2, 1) := by decide +kernel
theorem dX8_plan_34 : decode cX8_plan 34 = .ok (.iload_n 3, 1) := by decide +kernel
theorem dX8_plan_35 : decode cX8_plan 35 = .ok (.iload 5, 2) := by decide +kernel
theorem dX8_plan_37 : decode cX8_plan 37 = .ok (.invokestatic 224, 3) := by decide +kernel
theorem dX8_plan_40 : decode cX8_plan 40 = .ok (.invokevirtual 228, 3) := by decide +kernel
theorem dX8_plan_43 : decode cX8_plan 43 = .ok (.istore 6, 2) := by decide +kernel
theorem dX8_plan_45 : decode cX8_plan 45 = .ok (.iload 6, 2) := by decide +kernel
theorem dX8_plan_47 : decode cX8_plan 47 = .ok (.ifCond .ge 6, 3) := by decide +kernel
theorem dX8_plan_50 : decode cX8_plan 50 = .ok (.goto 125, 3) := by decide +kernel
theorem dX8_plan_53 : decode cX8_plan 53 = .ok (.aload_n 0, 1) := by decide +kernel
theorem dX8_plan_54 : decode cX8_plan 54 = .ok (.getfield 39, 3) := by decide +kernel
theorem dX8_plan_57 : decode cX8_plan 57 = .ok (.aload_n 1, 1) := by decide +kernel
theorem dX8_plan_58 : decode cX8_plan 58 = .ok (.getfield 85, 3) := by decide +kernel
theorem dX8_plan_61 : decode cX8_plan 61 = .ok (.iload 6, 2) := by decide +kernel
theorem dX8_plan_63 : decode cX8_plan 63 = .ok (.invokevirtual 274, 3) := by decide +kernel
theorem dX8_plan_66 : decode cX8_plan 66 = .ok (.istore 7, 2) := by decide +kernel
theorem dX8_plan_68 : decode cX8_plan 68 = .ok (.iload 7, 2) := by decide +kernel
theorem dX8_plan_70 : decode cX8_plan 70 = .ok (.aload_n 1, 1) := by decide +kernel
theorem dX8_plan_71 : decode cX8_plan 71 = .ok (.getfield 85, 3) := by decide +kernel
theorem dX8_plan_74 : decode cX8_plan 74 = .ok (.iload 6, 2) := by decide +kernel
theorem dX8_plan_76 : decode cX8_plan 76 = .ok (.invokevirtual 278, 3) := by decide +kernel
theorem dX8_plan_79 : decode cX8_plan 79 = .ok (.iadd, 1) := by decide +kernel
theorem dX8_plan_80 : decode cX8_plan 80 = .ok (.istore 8, 2) := by decide +kernel
theorem dX8_plan_82 : decode cX8_plan 82 = .ok (.aload_n 0, 1) := by decide +kernel
theorem dX8_plan_83 : decode cX8_plan 83 = .ok (.getfield 39, 3) := by decide +kernel
theorem dX8_plan_86 : decode cX8_plan 86 = .ok (.aload_n 1, 1) := by decide +kernel
theorem dX8_plan_87 : decode cX8_plan 87 = .ok (.getfield 85, 3) := by decide +kernel
theorem dX8_plan_90 : decode cX8_plan 90 = .ok (.iload 6, 2) := by decide +kernel
theorem dX8_plan_92 : decode cX8_plan 92 = .ok (.iload 4, 2) := by decide +kernel
theorem dX8_plan_94 : decode cX8_plan 94 = .ok (.invokevirtual 281, 3) := by decide +kernel
theorem dX8_plan_97 : decode cX8_plan 97 = .ok (.ifCond .eq 55, 3) := by decide +kernel
theorem dX8_plan_100 : decode cX8_plan 100 = .ok (.aload_n 0, 1) := by decide +kernel
theorem dX8_plan_101 : decode cX8_plan 101 = .ok (.getfield 39, 3) := by decide +kernel
theorem dX8_plan_104 : decode cX8_plan 104 = .ok (.aload_n 1, 1) := by decide +kernel
theorem dX8_plan_105 : decode cX8_plan 105 = .ok (.getfield 85, 3) := by decide +kernel
theorem dX8_plan_108 : decode cX8_plan 108 = .ok (.iload 6, 2) := by decide +kernel
theorem dX8_plan_110 : decode cX8_plan 110 = .ok (.iload 4, 2) := by decide +kernel
theorem dX8_plan_112 : decode cX8_plan 112 = .ok (.invokevirtual 285, 3) := by decide +kernel
theorem dX8_plan_115 : decode cX8_plan 115 = .ok (.istore 9, 2) := by decide +kernel
theorem dX8_plan_117 : decode cX8_plan 117 = .ok (.aload_n 0, 1) := by decide +kernel
theorem dX8_plan_118 : decode cX8_plan 118 = .ok (.getfield 46, 3) := by decide +kernel
theorem dX8_plan_121 : decode cX8_plan 121 = .ok (.iload 9, 2) := by decide +kernel
theorem dX8_plan_123 : decode cX8_plan 123 = .ok (.iload 9, 2) := by decide +kernel
theorem dX8_plan_125 : decode cX8_plan 125 = .ok (.aload_n 1, 1) := by decide +kernel
theorem dX8_plan_126 : decode cX8_plan 126 = .ok (.getfield 85, 3) := by decide +kernel
theorem dX8_plan_129 : decode cX8_plan 129 = .ok (.iload 6, 2) := by decide +kernel
theorem dX8_plan_131 : decode cX8_plan 131 = .ok (.iload 4, 2) := by decide +kernel
theorem dX8_plan_133 : decode cX8_plan 133 = .ok (.invokevirtual 119, 3) := by decide +kernel
theorem dX8_plan_136 : decode cX8_plan 136 = .ok (.iadd, 1) := by decide +kernel
theorem dX8_plan_137 : decode cX8_plan 137 = .ok (.iload 8, 2) := by decide +kernel
theorem dX8_plan_139 : decode cX8_plan 139 = .ok (.invokevirtual 289, 3) := by decide +kernel
theorem dX8_plan_142 : decode cX8_plan 142 = .ok (.aload_n 0, 1) := by decide +kernel
theorem dX8_plan_143 : decode cX8_plan 143 = .ok (.getfield 46, 3) := by decide +kernel
theorem dX8_plan_146 : decode cX8_plan 146 = .ok (.iload 5, 2) := by decide +kernel
theorem dX8_plan_148 : decode cX8_plan 148 = .ok (.putfield 265, 3) := by decide +kernel
theorem dX8_plan_151 : decode cX8_plan 151 = .ok (.return_, 1) := by decide +kernel
theorem dX8_plan_152 : decode cX8_plan 152 = .ok (.aload_n 0, 1) := by decide +kernel
theorem dX8_plan_153 : decode cX8_plan 153 = .ok (.getfield 46, 3) := by decide +kernel
theorem dX8_plan_156 : decode cX8_plan 156 = .ok (.iload 7, 2) := by decide +kernel
theorem dX8_plan_158 : decode cX8_plan 158 = .ok (.iload 8, 2) := by decide +kernel
theorem dX8_plan_160 : decode cX8_plan 160 = .ok (.iload 8, 2) := by decide +kernel
theorem dX8_plan_162 : decode cX8_plan 162 = .ok (.invokevirtual 289, 3) := by decide +kernel
theorem dX8_plan_165 : decode cX8_plan 165 = .ok (.aload_n 0, 1) := by decide +kernel
theorem dX8_plan_166 : decode cX8_plan 166 = .ok (.getfield 39, 3) := by decide +kernel
theorem dX8_plan_169 : decode cX8_plan 169 = .ok (.aload_n 1, 1) := by decide +kernel
theorem dX8_plan_170 : decode cX8_plan 170 = .ok (.iload 6, 2) := by decide +kernel
theorem dX8_plan_172 : decode cX8_plan 172 = .ok (.invokevirtual 291, 3) := by decide +kernel
theorem dX8_plan_175 : decode cX8_plan 175 = .ok (.iinc 5 (-1), 3) := by decide +kernel
theorem dX8_plan_178 : decode cX8_plan 178 = .ok (.goto (-154), 3) := by decide +kernel
theorem dX8_plan_181 : decode cX8_plan 181 = .ok (.aload_n 0, 1) := by decide +kernel
theorem dX8_plan_182 : decode cX8_plan 182 = .ok (.getfield 39, 3) := by decide +kernel
theorem dX8_plan_185 : decode cX8_plan 185 = .ok (.iload 4, 2) := by decide +kernel
theorem dX8_plan_187 : decode cX8_plan 187 = .ok (.invokevirtual 295, 3) := by decide +kernel
theorem dX8_plan_190 : decode cX8_plan 190 = .ok (.istore 5, 2) := by decide +kernel
theorem dX8_plan_192 : decode cX8_plan 192 = .ok (.aload_n 0, 1) := by decide +kernel
theorem dX8_plan_193 : decode cX8_plan 193 = .ok (.getfield 46, 3) := by decide +kernel
theorem dX8_plan_196 : decode cX8_plan 196 = .ok (.iload 5, 2) := by decide +kernel
theorem dX8_plan_198 : decode cX8_plan 198 = .ok (.iload 5, 2) := by decide +kernel
theorem dX8_plan_200 : decode cX8_plan 200 = .ok (.iconst 1, 1) := by decide +kernel
theorem dX8_plan_201 : decode cX8_plan 201 = .ok (.iadd, 1) := by decide +kernel
theorem dX8_plan_202 : decode cX8_plan 202 = .ok (.aload_n 0, 1) := by decide +kernel
theorem dX8_plan_203 : decode cX8_plan 203 = .ok (.getfield 39, 3) := by decide +kernel
theorem dX8_plan_206 : decode cX8_plan 206 = .ok (.bipush 96, 2) := by decide +kernel
theorem dX8_plan_208 : decode cX8_plan 208 = .ok (.invokevirtual 295, 3) := by decide +kernel
theorem dX8_plan_211 : decode cX8_plan 211 = .ok (.invokevirtual 289, 3) := by decide +kernel
theorem dX8_plan_214 : decode cX8_plan 214 = .ok (.aload_n 0, 1) := by decide +kernel
theorem dX8_plan_215 : decode cX8_plan 215 = .ok (.getfield 46, 3) := by decide +kernel
theorem dX8_plan_218 : decode cX8_plan 218 = .ok (.iconst (-1), 1) := by decide +kernel
theorem dX8_plan_219 : decode cX8_plan 219 = .ok (.putfield 265, 3) := by decide +kernel
theorem dX8_plan_222 : decode cX8_plan 222 = .ok (.return_, 1) := by decide +kernel
theorem dX8_readOnTrial_0 : decode cX8_readOnTrial 0 = .ok (.aload_n 0, 1) := by decide +kernel
theorem dX8_readOnTrial_1 : decode cX8_readOnTrial 1 = .ok (.getfield 16, 3) := by decide +kernel
theorem dX8_readOnTrial_4 : decode cX8_readOnTrial 4 = .ok (.aload_n 0, 1) := by decide +kernel
theorem dX8_readOnTrial_5 : decode cX8_readOnTrial 5 = .ok (.getfield 12, 3) := by decide +kernel
theorem dX8_readOnTrial_8 : decode cX8_readOnTrial 8 = .ok (.invokevirtual 231, 3) := by decide +kernel
theorem dX8_readOnTrial_11 : decode cX8_readOnTrial 11 = .ok (.aload_n 0, 1) := by decide +kernel
theorem dX8_readOnTrial_12 : decode cX8_readOnTrial 12 = .ok (.getfield 16, 3) := by decide +kernel
theorem dX8_readOnTrial_15 : decode cX8_readOnTrial 15 = .ok (.getfield 85, 3) := by decide +kernel
theorem dX8_readOnTrial_18 : decode cX8_readOnTrial 18 = .ok (.aload_n 0, 1) := by decide +kernel
theorem dX8_readOnTrial_19 : decode cX8_readOnTrial 19 = .ok (.getfield 12, 3) := by decide +kernel
theorem dX8_readOnTrial_22 : decode cX8_readOnTrial 22 = .ok (.getfield 85, 3) := by decide +kernel
theorem dX8_readOnTrial_25 : decode cX8_readOnTrial 25 = .ok (.invokevirtual 148, 3) := by decide +kernel
theorem dX8_readOnTrial_28 : decode cX8_readOnTrial 28 = .ok (.aload_n 0, 1) := by decide +kernel
theorem dX8_readOnTrial_29 : decode cX8_readOnTrial 29 = .ok (.getfield 16, 3) := by decide +kernel
theorem dX8_readOnTrial_32 : decode cX8_readOnTrial 32 = .ok (.getfield 176, 3) := by decide +kernel
theorem dX8_readOnTrial_35 : decode cX8_readOnTrial 35 = .ok (.invokevirtual 298, 3) := by decide +kernel
theorem dX8_readOnTrial_38 : decode cX8_readOnTrial 38 = .ok (.aload_n 0, 1) := by decide +kernel
theorem dX8_readOnTrial_39 : decode cX8_readOnTrial 39 = .ok (.getfield 60, 3) := by decide +kernel
theorem dX8_readOnTrial_42 : decode cX8_readOnTrial 42 = .ok (.aload_n 0, 1) := by decide +kernel
theorem dX8_readOnTrial_43 : decode cX8_readOnTrial 43 = .ok (.getfield 12, 3) := by decide +kernel
theorem dX8_readOnTrial_46 : decode cX8_readOnTrial 46 = .ok (.getfield 161, 3) := by decide +kernel
theorem dX8_readOnTrial_49 : decode cX8_readOnTrial 49 = .ok (.invokevirtual 299, 3) := by decide +kernel
theorem dX8_readOnTrial_52 : decode cX8_readOnTrial 52 = .ok (.iconst 0, 1) := by decide +kernel
theorem dX8_readOnTrial_53 : decode cX8_readOnTrial 53 = .ok (.istore_n 1, 1) := by decide +kernel
theorem dX8_readOnTrial_54 : decode cX8_readOnTrial 54 = .ok (.iload_n 1, 1) := by decide +kernel
theorem dX8_readOnTrial_55 : decode cX8_readOnTrial 55 = .ok (.sipush 200, 3) := by decide +kernel
theorem dX8_readOnTrial_58 : decode cX8_readOnTrial 58 = .ok (.if_icmp .gt 89, 3) := by decide +kernel
theorem dX8_readOnTrial_61 : decode cX8_readOnTrial 61 = .ok (.aload_n 0, 1) := by decide +kernel
theorem dX8_readOnTrial_62 : decode cX8_readOnTrial 62 = .ok (.aload_n 0, 1) := by decide +kernel
theorem dX8_readOnTrial_63 : decode cX8_readOnTrial 63 = .ok (.getfield 16, 3) := by decide +kernel
theorem dX8_readOnTrial_66 : decode cX8_readOnTrial 66 = .ok (.getfield 176, 3) := by decide +kernel
theorem dX8_readOnTrial_69 : decode cX8_readOnTrial 69 = .ok (.iload_n 1, 1) := by decide +kernel
theorem dX8_readOnTrial_70 : decode cX8_readOnTrial 70 = .ok (.invokevirtual 301, 3) := by decide +kernel
theorem dX8_readOnTrial_73 : decode cX8_readOnTrial 73 = .ok (.istore_n 2, 1) := by decide +kernel
theorem dX8_readOnTrial_74 : decode cX8_readOnTrial 74 = .ok (.iload_n 2, 1) := by decide +kernel
theorem dX8_readOnTrial_75 : decode cX8_readOnTrial 75 = .ok (.ifCond .ge 5, 3) := by decide +kernel
theorem dX8_readOnTrial_78 : decode cX8_readOnTrial 78 = .ok (.iconst 3, 1) := by decide +kernel
theorem dX8_readOnTrial_79 : decode cX8_readOnTrial 79 = .ok (.ireturn, 1) := by decide +kernel
theorem dX8_readOnTrial_80 : decode cX8_readOnTrial 80 = .ok (.iload_n 2, 1) := by decide +kernel
theorem dX8_readOnTrial_81 : decode cX8_readOnTrial 81 = .ok (.bipush 95, 2) := by decide +kernel
theorem dX8_readOnTrial_83 : decode cX8_readOnTrial 83 = .ok (.if_icmp .ne 31, 3) := by decide +kernel
theorem dX8_readOnTrial_86 : decode cX8_readOnTrial 86 = .ok (.aload_n 0, 1) := by decide +kernel
theorem dX8_readOnTrial_87 : decode cX8_readOnTrial 87 = .ok (.getfield 60, 3) := by decide +kernel
theorem dX8_readOnTrial_90 : decode cX8_readOnTrial 90 = .ok (.ldc 245, 2) := by decide +kernel
theorem dX8_readOnTrial_92 : decode cX8_readOnTrial 92 = .ok (.invokevirtual 305, 3) := by decide +kernel
theorem dX8_readOnTrial_95 : decode cX8_readOnTrial 95 = .ok (.aload_n 0, 1) := by decide +kernel
theorem dX8_readOnTrial_96 : decode cX8_readOnTrial 96 = .ok (.getfield 16, 3) := by decide +kernel
theorem dX8_readOnTrial_99 : decode cX8_readOnTrial 99 = .ok (.getfield 176, 3) := by decide +kernel
theorem dX8_readOnTrial_102 : decode cX8_readOnTrial 102 = .ok (.invokestatic 241, 3) := by decide +kernel
theorem dX8_readOnTrial_105 : decode cX8_readOnTrial 105 = .ok (.if_icmp .ne 7, 3) := by decide +kernel
theorem dX8_readOnTrial_108 : decode cX8_readOnTrial 108 = .ok (.iconst 0, 1) := by decide +kernel
theorem dX8_readOnTrial_109 : decode cX8_readOnTrial 109 = .ok (.goto 4, 3) := by decide +kernel
theorem dX8_readOnTrial_112 : decode cX8_readOnTrial 112 = .ok (.iconst 2, 1) := by decide +kernel
theorem dX8_readOnTrial_113 : decode cX8_readOnTrial 113 = .ok (.ireturn, 1) := by decide +kernel
theorem dX8_readOnTrial_114 : decode cX8_readOnTrial 114 = .ok (.aload_n 0, 1) := by decide +kernel
theorem dX8_readOnTrial_115 : decode cX8_readOnTrial 115 = .ok (.getfield 16, 3) := by decide +kernel
theorem dX8_readOnTrial_118 : decode cX8_readOnTrial 118 = .ok (.aload_n 0, 1) := by decide +kernel
theorem dX8_readOnTrial_119 : decode cX8_readOnTrial 119 = .ok (.getfield 16, 3) := by decide +kernel
theorem dX8_readOnTrial_122 : decode cX8_readOnTrial 122 = .ok (.getfield 176, 3) := by decide +kernel
theorem dX8_readOnTrial_125 : decode cX8_readOnTrial 125 = .ok (.iload_n 1, 1) := by decide +kernel
theorem dX8_readOnTrial_126 : decode cX8_readOnTrial 126 = .ok (.iload_n 2, 1) := by decide +kernel
theorem dX8_readOnTrial_127 : decode cX8_readOnTrial 127 = .ok (.invokevirtual 109, 3) := by decide +kernel
theorem dX8_readOnTrial_130 : decode cX8_readOnTrial 130 = .ok (.aload_n 0, 1) := by decide +kernel
theorem dX8_readOnTrial_131 : decode cX8_readOnTrial 131 = .ok (.getfield 16, 3) := by decide +kernel
theorem dX8_readOnTrial_134 : decode cX8_readOnTrial 134 = .ok (.getfield 176, 3) := by decide +kernel
theorem dX8_readOnTrial_137 : decode cX8_readOnTrial 137 = .ok (.iload_n 2, 1) := by decide +kernel
theorem dX8_readOnTrial_138 : decode cX8_readOnTrial 138 = .ok (.invokevirtual 135, 3) := by decide +kernel
theorem dX8_readOnTrial_141 : decode cX8_readOnTrial 141 = .ok (.iinc 1 1, 3) := by decide +kernel
theorem dX8_readOnTrial_144 : decode cX8_readOnTrial 144 = .ok (.goto (-90), 3) := by decide +kernel
theorem dX8_readOnTrial_147 : decode cX8_readOnTrial 147 = .ok (.iconst 1, 1) := by decide +kernel
theorem dX8_readOnTrial_148 : decode cX8_readOnTrial 148 = .ok (.ireturn, 1) := by decide +kernel
theorem dX8_readSymbol_0 : decode cX8_readSymbol 0 = .ok (.aload_n 0, 1) := by decide +kernel
theorem dX8_readSymbol_1 : decode cX8_readSymbol 1 = .ok (.getfield 16, 3) := by decide +kernel
theorem dX8_readSymbol_4 : decode cX8_readSymbol 4 = .ok (.getfield 85, 3) := by decide +kernel
theorem dX8_readSymbol_7 : decode cX8_readSymbol 7 = .ok (.astore_n 3, 1) := by decide +kernel
theorem dX8_readSymbol_8 : decode cX8_readSymbol 8 = .ok (.aload_n 0, 1) := by decide +kernel
theorem dX8_readSymbol_9 : decode cX8_readSymbol 9 = .ok (.getfield 39, 3) := by decide +kernel
theorem dX8_readSymbol_12 : decode cX8_readSymbol 12 = .ok (.invokevirtual 271, 3) := by decide +kernel
theorem dX8_readSymbol_15 : decode cX8_readSymbol 15 = .ok (.aload_n 0, 1) := by decide +kernel
theorem dX8_readSymbol_16 : decode cX8_readSymbol 16 = .ok (.getfield 16, 3) := by decide +kernel
theorem dX8_readSymbol_19 : decode cX8_readSymbol 19 = .ok (.getfield 73, 3) := by decide +kernel
theorem dX8_readSymbol_22 : decode cX8_readSymbol 22 = .ok (.iload_n 2, 1) := by decide +kernel
theorem dX8_readSymbol_23 : decode cX8_readSymbol 23 = .ok (.invokestatic 64, 3) := by decide +kernel
theorem dX8_readSymbol_26 : decode cX8_readSymbol 26 = .ok (.istore 4, 2) := by decide +kernel
theorem dX8_readSymbol_28 : decode cX8_readSymbol 28 = .ok (.iload 4, 2) := by decide +kernel
theorem dX8_readSymbol_30 : decode cX8_readSymbol 30 = .ok (.ifCond .lt 150, 3) := by decide +kernel
theorem dX8_readSymbol_33 : decode cX8_readSymbol 33 = .ok (.aload_n 3, 1) := by decide +kernel
theorem dX8_readSymbol_34 : decode cX8_readSymbol 34 = .ok (.aload_n 1, 1) := by decide +kernel
theorem dX8_readSymbol_35 : decode cX8_readSymbol 35 = .ok (.iload_n 2, 1) := by decide +kernel
theorem dX8_readSymbol_36 : decode cX8_readSymbol 36 = .ok (.iload 4, 2) := by decide +kernel
theorem dX8_readSymbol_38 : decode cX8_readSymbol 38 = .ok (.invokestatic 224, 3) := by decide +kernel
theorem dX8_readSymbol_41 : decode cX8_readSymbol 41 = .ok (.invokevirtual 228, 3) := by decide +kernel
theorem dX8_readSymbol_44 : decode cX8_readSymbol 44 = .ok (.istore 5, 2) := by decide +kernel
theorem dX8_readSymbol_46 : decode cX8_readSymbol 46 = .ok (.iload 5, 2) := by decide +kernel
theorem dX8_readSymbol_48 : decode cX8_readSymbol 48 = .ok (.ifCond .ge 6, 3) := by decide +kernel
theorem dX8_readSymbol_51 : decode cX8_readSymbol 51 = .ok (.goto 123, 3) := by decide +kernel
theorem dX8_readSymbol_54 : decode cX8_readSymbol 54 = .ok (.aload_n 0, 1) := by decide +kernel
theorem dX8_readSymbol_55 : decode cX8_readSymbol 55 = .ok (.getfield 39, 3) := by decide +kernel
theorem dX8_readSymbol_58 : decode cX8_readSymbol 58 = .ok (.aload_n 3, 1) := by decide +kernel
theorem dX8_readSymbol_59 : decode cX8_readSymbol 59 = .ok (.iload 5, 2) := by decide +kernel
theorem dX8_readSymbol_61 : decode cX8_readSymbol 61 = .ok (.invokevirtual 274, 3) := by decide +kernel
theorem dX8_readSymbol_64 : decode cX8_readSymbol 64 = .ok (.istore 6, 2) := by decide +kernel
theorem dX8_readSymbol_66 : decode cX8_readSymbol 66 = .ok (.iload 6, 2) := by decide +kernel
theorem dX8_readSymbol_68 : decode cX8_readSymbol 68 = .ok (.aload_n 3, 1) := by decide +kernel
theorem dX8_readSymbol_69 : decode cX8_readSymbol 69 = .ok (.iload 5, 2) := by decide +kernel
theorem dX8_readSymbol_71 : decode cX8_readSymbol 71 = .ok (.invokevirtual 278, 3) := by decide +kernel
theorem dX8_readSymbol_74 : decode cX8_readSymbol 74 = .ok (.iadd, 1) := by decide +kernel
theorem dX8_readSymbol_75 : decode cX8_readSymbol 75 = .ok (.istore 7, 2) := by decide +kernel
theorem dX8_readSymbol_77 : decode cX8_readSymbol 77 = .ok (.aload_n 0, 1) := by decide +kernel
theorem dX8_readSymbol_78 : decode cX8_readSymbol 78 = .ok (.getfield 60, 3) := by decide +kernel
theorem dX8_readSymbol_81 : decode cX8_readSymbol 81 = .ok (.iload 7, 2) := by decide +kernel
theorem dX8_readSymbol_83 : decode cX8_readSymbol 83 = .ok (.invokevirtual 305, 3) := by decide +kernel
theorem dX8_readSymbol_86 : decode cX8_readSymbol 86 = .ok (.istore 8, 2) := by decide +kernel
theorem dX8_readSymbol_88 : decode cX8_readSymbol 88 = .ok (.iload 8, 2) := by decide +kernel
theorem dX8_readSymbol_90 : decode cX8_readSymbol 90 = .ok (.iload 6, 2) := by decide +kernel
theorem dX8_readSymbol_92 : decode cX8_readSymbol 92 = .ok (.if_icmp .ge 56, 3) := by decide +kernel
theorem dX8_readSymbol_95 : decode cX8_readSymbol 95 = .ok (.aload_n 0, 1) := by decide +kernel
theorem dX8_readSymbol_96 : decode cX8_readSymbol 96 = .ok (.getfield 39, 3) := by decide +kernel
theorem dX8_readSymbol_99 : decode cX8_readSymbol 99 = .ok (.aload_n 3, 1) := by decide +kernel
theorem dX8_readSymbol_100 : decode cX8_readSymbol 100 = .ok (.iload 5, 2) := by decide +kernel
theorem dX8_readSymbol_102 : decode cX8_readSymbol 102 = .ok (.iload 8, 2) := by decide +kernel
theorem dX8_readSymbol_104 : decode cX8_readSymbol 104 = .ok (.invokevirtual 308, 3) := by decide +kernel
theorem dX8_readSymbol_107 : decode cX8_readSymbol 107 = .ok (.istore 9, 2) := by decide +kernel
theorem dX8_readSymbol_109 : decode cX8_readSymbol 109 = .ok (.aload_n 0, 1) := by decide +kernel
theorem dX8_readSymbol_110 : decode cX8_readSymbol 110 = .ok (.getfield 39, 3) := by decide +kernel
theorem dX8_readSymbol_113 : decode cX8_readSymbol 113 = .ok (.aload_n 3, 1) := by decide +kernel
theorem dX8_readSymbol_114 : decode cX8_readSymbol 114 = .ok (.iload 5, 2) := by decide +kernel
theorem dX8_readSymbol_116 : decode cX8_readSymbol 116 = .ok (.iload 9, 2) := by decide +kernel
theorem dX8_readSymbol_118 : decode cX8_readSymbol 118 = .ok (.invokevirtual 285, 3) := by decide +kernel
theorem dX8_readSymbol_121 : decode cX8_readSymbol 121 = .ok (.istore 10, 2) := by decide +kernel
theorem dX8_readSymbol_123 : decode cX8_readSymbol 123 = .ok (.aload_n 0, 1) := by decide +kernel
theorem dX8_readSymbol_124 : decode cX8_readSymbol 124 = .ok (.getfield 60, 3) := by decide +kernel
theorem dX8_readSymbol_127 : decode cX8_readSymbol 127 = .ok (.iload 10, 2) := by decide +kernel
theorem dX8_readSymbol_129 : decode cX8_readSymbol 129 = .ok (.iload 10, 2) := by decide +kernel
theorem dX8_readSymbol_131 : decode cX8_readSymbol 131 = .ok (.aload_n 3, 1) := by decide +kernel
theorem dX8_readSymbol_132 : decode cX8_readSymbol 132 = .ok (.iload 5, 2) := by decide +kernel
theorem dX8_readSymbol_134 : decode cX8_readSymbol 134 = .ok (.iload 9, 2) := by decide +kernel
theorem dX8_readSymbol_136 : decode cX8_readSymbol 136 = .ok (.invokevirtual 119, 3) := by decide +kernel
theorem dX8_readSymbol_139 : decode cX8_readSymbol 139 = .ok (.iadd, 1) := by decide +kernel
theorem dX8_readSymbol_140 : decode cX8_readSymbol 140 = .ok (.iload 7, 2) := by decide +kernel
theorem dX8_readSymbol_142 : decode cX8_readSymbol 142 = .ok (.invokevirtual 311, 3) := by decide +kernel
theorem dX8_readSymbol_145 : decode cX8_readSymbol 145 = .ok (.iload 9, 2) := by decide +kernel
theorem dX8_readSymbol_147 : decode cX8_readSymbol 147 = .ok (.ireturn, 1) := by decide +kernel
theorem dX8_readSymbol_148 : decode cX8_readSymbol 148 = .ok (.aload_n 0, 1) := by decide +kernel
theorem dX8_readSymbol_149 : decode cX8_readSymbol 149 = .ok (.getfield 60, 3) := by decide +kernel
theorem dX8_readSymbol_152 : decode cX8_readSymbol 152 = .ok (.iload 6, 2) := by decide +kernel
theorem dX8_readSymbol_154 : decode cX8_readSymbol 154 = .ok (.iload 7, 2) := by decide +kernel
theorem dX8_readSymbol_156 : decode cX8_readSymbol 156 = .ok (.iload 7, 2) := by decide +kernel
theorem dX8_readSymbol_158 : decode cX8_readSymbol 158 = .ok (.invokevirtual 311, 3) := by decide +kernel
theorem dX8_readSymbol_161 : decode cX8_readSymbol 161 = .ok (.aload_n 0, 1) := by decide +kernel
theorem dX8_readSymbol_162 : decode cX8_readSymbol 162 = .ok (.getfield 39, 3) := by decide +kernel
theorem dX8_readSymbol_165 : decode cX8_readSymbol 165 = .ok (.aload_n 0, 1) := by decide +kernel
theorem dX8_readSymbol_166 : decode cX8_readSymbol 166 = .ok (.getfield 16, 3) := by decide +kernel
theorem dX8_readSymbol_169 : decode cX8_readSymbol 169 = .ok (.iload 5, 2) := by decide +kernel
theorem dX8_readSymbol_171 : decode cX8_readSymbol 171 = .ok (.invokevirtual 291, 3) := by decide +kernel
theorem dX8_readSymbol_174 : decode cX8_readSymbol 174 = .ok (.iinc 4 (-1), 3) := by decide +kernel
theorem dX8_readSymbol_177 : decode cX8_readSymbol 177 = .ok (.goto (-149), 3) := by decide +kernel
theorem dX8_readSymbol_180 : decode cX8_readSymbol 180 = .ok (.aload_n 0, 1) := by decide +kernel
theorem dX8_readSymbol_181 : decode cX8_readSymbol 181 = .ok (.getfield 39, 3) := by decide +kernel
theorem dX8_readSymbol_184 : decode cX8_readSymbol 184 = .ok (.bipush 96, 2) := by decide +kernel
theorem dX8_readSymbol_186 : decode cX8_readSymbol 186 = .ok (.invokevirtual 295, 3) := by decide +kernel
theorem dX8_readSymbol_189 : decode cX8_readSymbol 189 = .ok (.istore 4, 2) := by decide +kernel
theorem dX8_readSymbol_191 : decode cX8_readSymbol 191 = .ok (.iload 4, 2) := by decide +kernel
theorem dX8_readSymbol_193 : decode cX8_readSymbol 193 = .ok (.iconst 1, 1) := by decide +kernel
theorem dX8_readSymbol_194 : decode cX8_readSymbol 194 = .ok (.if_icmp .ge 5, 3) := by decide +kernel
theorem dX8_readSymbol_197 : decode cX8_readSymbol 197 = .ok (.iconst (-1), 1) := by decide +kernel
theorem dX8_readSymbol_198 : decode cX8_readSymbol 198 = .ok (.ireturn, 1) := by decide +kernel
theorem dX8_readSymbol_199 : decode cX8_readSymbol 199 = .ok (.aload_n 0, 1) := by decide +kernel
theorem dX8_readSymbol_200 : decode cX8_readSymbol 200 = .ok (.getfield 60, 3) := by decide +kernel
theorem dX8_readSymbol_203 : decode cX8_readSymbol 203 = .ok (.iload 4, 2) := by decide +kernel
theorem dX8_readSymbol_205 : decode cX8_readSymbol 205 = .ok (.invokevirtual 305, 3) := by decide +kernel
theorem dX8_readSymbol_208 : decode cX8_readSymbol 208 = .ok (.istore 5, 2) := by decide +kernel
theorem dX8_readSymbol_210 : decode cX8_readSymbol 210 = .ok (.aload_n 0, 1) := by decide +kernel
theorem dX8_readSymbol_211 : decode cX8_readSymbol 211 = .ok (.getfield 60, 3) := by decide +kernel
theorem dX8_readSymbol_214 : decode cX8_readSymbol 214 = .ok (.iload 5, 2) := by decide +kernel
theorem dX8_readSymbol_216 : decode cX8_readSymbol 216 = .ok (.iload 5, 2) := by decide +kernel
theorem dX8_readSymbol_218 : decode cX8_readSymbol 218 = .ok (.iconst 1, 1) := by decide +kernel
theorem dX8_readSymbol_219 : decode cX8_readSymbol 219 = .ok (.iadd, 1) := by decide +kernel
theorem dX8_readSymbol_220 : decode cX8_readSymbol 220 = .ok (.iload 4, 2) := by decide +kernel
theorem dX8_readSymbol_222 : decode cX8_readSymbol 222 = .ok (.invokevirtual 311, 3) := by decide +kernel
theorem dX8_readSymbol_225 : decode cX8_readSymbol 225 = .ok (.aload_n 0, 1) := by decide +kernel
theorem dX8_readSymbol_226 : decode cX8_readSymbol 226 = .ok (.getfield 39, 3) := by decide +kernel
theorem dX8_readSymbol_229 : decode cX8_readSymbol 229 = .ok (.iload 5, 2) := by decide +kernel
theorem dX8_readSymbol_231 : decode cX8_readSymbol 231 = .ok (.invokevirtual 312, 3) := by decide +kernel
theorem dX8_readSymbol_234 : decode cX8_readSymbol 234 = .ok (.ireturn, 1) := by decide +kernel
theorem dX8_contextKey_0 : decode cX8_contextKey 0 = .ok (.iconst 1, 1) := by decide +kernel
theorem dX8_contextKey_1 : decode cX8_contextKey 1 = .ok (.istore_n 3, 1) := by decide +kernel
theorem dX8_contextKey_2 : decode cX8_contextKey 2 = .ok (.iload_n 1, 1) := by decide +kernel
theorem dX8_contextKey_3 : decode cX8_contextKey 3 = .ok (.iload_n 2, 1) := by decide +kernel
theorem dX8_contextKey_4 : decode cX8_contextKey 4 = .ok (.isub, 1) := by decide +kernel
theorem dX8_contextKey_5 : decode cX8_contextKey 5 = .ok (.istore 4, 2) := by decide +kernel
theorem dX8_contextKey_7 : decode cX8_contextKey 7 = .ok (.iload 4, 2) := by decide +kernel
theorem dX8_contextKey_9 : decode cX8_contextKey 9 = .ok (.iload_n 1, 1) := by decide +kernel
theorem dX8_contextKey_10 : decode cX8_contextKey 10 = .ok (.if_icmp .ge 21, 3) := by decide +kernel
theorem dX8_contextKey_13 : decode cX8_contextKey 13 = .ok (.iload_n 3, 1) := by decide +kernel
theorem dX8_contextKey_14 : decode cX8_contextKey 14 = .ok (.bipush 95, 2) := by decide +kernel
theorem dX8_contextKey_16 : decode cX8_contextKey 16 = .ok (.imul, 1) := by decide +kernel
theorem dX8_contextKey_17 : decode cX8_contextKey 17 = .ok (.aload_n 0, 1) := by decide +kernel
theorem dX8_contextKey_18 : decode cX8_contextKey 18 = .ok (.iload 4, 2) := by decide +kernel
theorem dX8_contextKey_20 : decode cX8_contextKey 20 = .ok (.invokevirtual 105, 3) := by decide +kernel
theorem dX8_contextKey_23 : decode cX8_contextKey 23 = .ok (.iadd, 1) := by decide +kernel
theorem dX8_contextKey_24 : decode cX8_contextKey 24 = .ok (.istore_n 3, 1) := by decide +kernel
theorem dX8_contextKey_25 : decode cX8_contextKey 25 = .ok (.iinc 4 1, 3) := by decide +kernel
theorem dX8_contextKey_28 : decode cX8_contextKey 28 = .ok (.goto (-21), 3) := by decide +kernel
theorem dX8_contextKey_31 : decode cX8_contextKey 31 = .ok (.iload_n 3, 1) := by decide +kernel
theorem dX8_contextKey_32 : decode cX8_contextKey 32 = .ok (.ireturn, 1) := by decide +kernel
theorem dX8_checkNumber_0 : decode cX8_checkNumber 0 = .ok (.iconst 1, 1) := by decide +kernel
theorem dX8_checkNumber_1 : decode cX8_checkNumber 1 = .ok (.istore_n 1, 1) := by decide +kernel
theorem dX8_checkNumber_2 : decode cX8_checkNumber 2 = .ok (.iconst 0, 1) := by decide +kernel
theorem dX8_checkNumber_3 : decode cX8_checkNumber 3 = .ok (.istore_n 2, 1) := by decide +kernel
theorem dX8_checkNumber_4 : decode cX8_checkNumber 4 = .ok (.iload_n 2, 1) := by decide +kernel
theorem dX8_checkNumber_5 : decode cX8_checkNumber 5 = .ok (.aload_n 0, 1) := by decide +kernel
theorem dX8_checkNumber_6 : decode cX8_checkNumber 6 = .ok (.getfield 102, 3) := by decide +kernel
theorem dX8_checkNumber_9 : decode cX8_checkNumber 9 = .ok (.if_icmp .ge 27, 3) := by decide +kernel
theorem dX8_checkNumber_12 : decode cX8_checkNumber 12 = .ok (.bipush 31, 2) := by decide +kernel
theorem dX8_checkNumber_14 : decode cX8_checkNumber 14 = .ok (.iload_n 1, 1) := by decide +kernel
theorem dX8_checkNumber_15 : decode cX8_checkNumber 15 = .ok (.imul, 1) := by decide +kernel
theorem dX8_checkNumber_16 : decode cX8_checkNumber 16 = .ok (.aload_n 0, 1) := by decide +kernel
theorem dX8_checkNumber_17 : decode cX8_checkNumber 17 = .ok (.iload_n 2, 1) := by decide +kernel
theorem dX8_checkNumber_18 : decode cX8_checkNumber 18 = .ok (.invokevirtual 105, 3) := by decide +kernel
theorem dX8_checkNumber_21 : decode cX8_checkNumber 21 = .ok (.iadd, 1) := by decide +kernel
theorem dX8_checkNumber_22 : decode cX8_checkNumber 22 = .ok (.bipush 32, 2) := by decide +kernel
theorem dX8_checkNumber_24 : decode cX8_checkNumber 24 = .ok (.iadd, 1) := by decide +kernel
theorem dX8_checkNumber_25 : decode cX8_checkNumber 25 = .ok (.ldc_w 315, 3) := by decide +kernel
theorem dX8_checkNumber_28 : decode cX8_checkNumber 28 = .ok (.irem, 1) := by decide +kernel
theorem dX8_checkNumber_29 : decode cX8_checkNumber 29 = .ok (.istore_n 1, 1) := by decide +kernel
theorem dX8_checkNumber_30 : decode cX8_checkNumber 30 = .ok (.iinc 2 1, 3) := by decide +kernel
theorem dX8_checkNumber_33 : decode cX8_checkNumber 33 = .ok (.goto (-29), 3) := by decide +kernel
theorem dX8_checkNumber_36 : decode cX8_checkNumber 36 = .ok (.iload_n 1, 1) := by decide +kernel
theorem dX8_checkNumber_37 : decode cX8_checkNumber 37 = .ok (.ireturn, 1) := by decide +kernel
theorem dX8_intervalCost_0 : decode cX8_intervalCost 0 = .ok (.iload_n 1, 1) := by decide +kernel
theorem dX8_intervalCost_1 : decode cX8_intervalCost 1 = .ok (.invokestatic 316, 3) := by decide +kernel
theorem dX8_intervalCost_4 : decode cX8_intervalCost 4 = .ok (.iload_n 0, 1) := by decide +kernel
theorem dX8_intervalCost_5 : decode cX8_intervalCost 5 = .ok (.invokestatic 316, 3) := by decide +kernel
theorem dX8_intervalCost_8 : decode cX8_intervalCost 8 = .ok (.isub, 1) := by decide +kernel
theorem dX8_intervalCost_9 : decode cX8_intervalCost 9 = .ok (.ireturn, 1) := by decide +kernel
theorem dX8_logarithm_0 : decode cX8_logarithm 0 = .ok (.iload_n 0, 1) := by decide +kernel
theorem dX8_logarithm_1 : decode cX8_logarithm 1 = .ok (.iconst 1, 1) := by decide +kernel
theorem dX8_logarithm_2 : decode cX8_logarithm 2 = .ok (.if_icmp .ge 5, 3) := by decide +kernel
theorem dX8_logarithm_5 : decode cX8_logarithm 5 = .ok (.iconst 0, 1) := by decide +kernel
theorem dX8_logarithm_6 : decode cX8_logarithm 6 = .ok (.ireturn, 1) := by decide +kernel
theorem dX8_logarithm_7 : decode cX8_logarithm 7 = .ok (.iconst 0, 1) := by decide +kernel
theorem dX8_logarithm_8 : decode cX8_logarithm 8 = .ok (.istore_n 1, 1) := by decide +kernel
theorem dX8_logarithm_9 : decode cX8_logarithm 9 = .ok (.iload_n 1, 1) := by decide +kernel
theorem dX8_logarithm_10 : decode cX8_logarithm 10 = .ok (.bipush 30, 2) := by decide +kernel
theorem dX8_logarithm_12 : decode cX8_logarithm 12 = .ok (.if_icmp .ge 17, 3) := by decide +kernel
theorem dX8_logarithm_15 : decode cX8_logarithm 15 = .ok (.iload_n 0, 1) := by decide +kernel
theorem dX8_logarithm_16 : decode cX8_logarithm 16 = .ok (.iload_n 1, 1) := by decide +kernel
theorem dX8_logarithm_17 : decode cX8_logarithm 17 = .ok (.iconst 1, 1) := by decide +kernel
theorem dX8_logarithm_18 : decode cX8_logarithm 18 = .ok (.iadd, 1) := by decide +kernel
theorem dX8_logarithm_19 : decode cX8_logarithm 19 = .ok (.ishr, 1) := by decide +kernel
theorem dX8_logarithm_20 : decode cX8_logarithm 20 = .ok (.ifCond .le 9, 3) := by decide +kernel
theorem dX8_logarithm_23 : decode cX8_logarithm 23 = .ok (.iinc 1 1, 3) := by decide +kernel
theorem dX8_logarithm_26 : decode cX8_logarithm 26 = .ok (.goto (-17), 3) := by decide +kernel
theorem dX8_logarithm_29 : decode cX8_logarithm 29 = .ok (.iload_n 0, 1) := by decide +kernel
theorem dX8_logarithm_30 : decode cX8_logarithm 30 = .ok (.i2l, 1) := by decide +kernel
theorem dX8_logarithm_31 : decode cX8_logarithm 31 = .ok (.bipush 30, 2) := by decide +kernel
theorem dX8_logarithm_33 : decode cX8_logarithm 33 = .ok (.iload_n 1, 1) := by decide +kernel
theorem dX8_logarithm_34 : decode cX8_logarithm 34 = .ok (.isub, 1) := by decide +kernel
theorem dX8_logarithm_35 : decode cX8_logarithm 35 = .ok (.lshl, 1) := by decide +kernel
theorem dX8_logarithm_36 : decode cX8_logarithm 36 = .ok (.lstore_n 2, 1) := by decide +kernel
theorem dX8_logarithm_37 : decode cX8_logarithm 37 = .ok (.ldc 245, 2) := by decide +kernel
theorem dX8_logarithm_39 : decode cX8_logarithm 39 = .ok (.iload_n 1, 1) := by decide +kernel
theorem dX8_logarithm_40 : decode cX8_logarithm 40 = .ok (.imul, 1) := by decide +kernel
theorem dX8_logarithm_41 : decode cX8_logarithm 41 = .ok (.istore 4, 2) := by decide +kernel
theorem dX8_logarithm_43 : decode cX8_logarithm 43 = .ok (.bipush 15, 2) := by decide +kernel
theorem dX8_logarithm_45 : decode cX8_logarithm 45 = .ok (.istore 5, 2) := by decide +kernel
theorem dX8_logarithm_47 : decode cX8_logarithm 47 = .ok (.iload 5, 2) := by decide +kernel
theorem dX8_logarithm_49 : decode cX8_logarithm 49 = .ok (.ifCond .lt 37, 3) := by decide +kernel
theorem dX8_logarithm_52 : decode cX8_logarithm 52 = .ok (.lload_n 2, 1) := by decide +kernel
theorem dX8_logarithm_53 : decode cX8_logarithm 53 = .ok (.lload_n 2, 1) := by decide +kernel
end
section
theorem dX8_logarithm_54 : decode cX8_logarithm 54 = .ok (.lmul, 1) := by decide +kernel
theorem dX8_logarithm_55 : decode cX8_logarithm 55 = .ok (.bipush 30, 2) := by decide +kernel
theorem dX8_logarithm_57 : decode cX8_logarithm 57 = .ok (.lshr, 1) := by decide +kernel
theorem dX8_logarithm_58 : decode cX8_logarithm 58 = .ok (.lstore_n 2, 1) := by decide +kernel
theorem dX8_logarithm_59 : decode cX8_logarithm 59 = .ok (.lload_n 2, 1) := by decide +kernel
theorem dX8_logarithm_60 : decode cX8_logarithm 60 = .ok (.ldc2_w 319, 3) := by decide +kernel
theorem dX8_logarithm_63 : decode cX8_logarithm 63 = .ok (.lcmp, 1) := by decide +kernel
theorem dX8_logarithm_64 : decode cX8_logarithm 64 = .ok (.ifCond .lt 16, 3) := by decide +kernel
theorem dX8_logarithm_67 : decode cX8_logarithm 67 = .ok (.lload_n 2, 1) := by decide +kernel
theorem dX8_logarithm_68 : decode cX8_logarithm 68 = .ok (.iconst 1, 1) := by decide +kernel
theorem dX8_logarithm_69 : decode cX8_logarithm 69 = .ok (.lshr, 1) := by decide +kernel
theorem dX8_logarithm_70 : decode cX8_logarithm 70 = .ok (.lstore_n 2, 1) := by decide +kernel
theorem dX8_logarithm_71 : decode cX8_logarithm 71 = .ok (.iload 4, 2) := by decide +kernel
theorem dX8_logarithm_73 : decode cX8_logarithm 73 = .ok (.iconst 1, 1) := by decide +kernel
theorem dX8_logarithm_74 : decode cX8_logarithm 74 = .ok (.iload 5, 2) := by decide +kernel
theorem dX8_logarithm_76 : decode cX8_logarithm 76 = .ok (.ishl, 1) := by decide +kernel
theorem dX8_logarithm_77 : decode cX8_logarithm 77 = .ok (.iadd, 1) := by decide +kernel
theorem dX8_logarithm_78 : decode cX8_logarithm 78 = .ok (.istore 4, 2) := by decide +kernel
theorem dX8_logarithm_80 : decode cX8_logarithm 80 = .ok (.iinc 5 (-1), 3) := by decide +kernel
theorem dX8_logarithm_83 : decode cX8_logarithm 83 = .ok (.goto (-36), 3) := by decide +kernel
theorem dX8_logarithm_86 : decode cX8_logarithm 86 = .ok (.iload 4, 2) := by decide +kernel
theorem dX8_logarithm_88 : decode cX8_logarithm 88 = .ok (.ireturn, 1) := by decide +kernel
theorem dX9_init_0 : decode cX9_init 0 = .ok (.aload_n 0, 1) := by decide +kernel
theorem dX9_init_1 : decode cX9_init 1 = .ok (.invokespecial 1, 3) := by decide +kernel
theorem dX9_init_4 : decode cX9_init 4 = .ok (.aload_n 0, 1) := by decide +kernel
theorem dX9_init_5 : decode cX9_init 5 = .ok (.sipush 25700, 3) := by decide +kernel
theorem dX9_init_8 : decode cX9_init 8 = .ok (.newarray .int, 2) := by decide +kernel
theorem dX9_init_10 : decode cX9_init 10 = .ok (.putfield 7, 3) := by decide +kernel
theorem dX9_init_13 : decode cX9_init 13 = .ok (.aload_n 0, 1) := by decide +kernel
theorem dX9_init_14 : decode cX9_init 14 = .ok (.sipush 25700, 3) := by decide +kernel
theorem dX9_init_17 : decode cX9_init 17 = .ok (.newarray .int, 2) := by decide +kernel
theorem dX9_init_19 : decode cX9_init 19 = .ok (.putfield 13, 3) := by decide +kernel
theorem dX9_init_22 : decode cX9_init 22 = .ok (.aload_n 0, 1) := by decide +kernel
theorem dX9_init_23 : decode cX9_init 23 = .ok (.ldc 16, 2) := by decide +kernel
theorem dX9_init_25 : decode cX9_init 25 = .ok (.newarray .int, 2) := by decide +kernel
theorem dX9_init_27 : decode cX9_init 27 = .ok (.putfield 17, 3) := by decide +kernel
theorem dX9_init_30 : decode cX9_init 30 = .ok (.aload_n 0, 1) := by decide +kernel
theorem dX9_init_31 : decode cX9_init 31 = .ok (.sipush 200, 3) := by decide +kernel
theorem dX9_init_34 : decode cX9_init 34 = .ok (.newarray .int, 2) := by decide +kernel
theorem dX9_init_36 : decode cX9_init 36 = .ok (.putfield 20, 3) := by decide +kernel
theorem dX9_init_39 : decode cX9_init 39 = .ok (.aload_n 0, 1) := by decide +kernel
theorem dX9_init_40 : decode cX9_init 40 = .ok (.sipush 2000, 3) := by decide +kernel
theorem dX9_init_43 : decode cX9_init 43 = .ok (.newarray .int, 2) := by decide +kernel
theorem dX9_init_45 : decode cX9_init 45 = .ok (.putfield 23, 3) := by decide +kernel
theorem dX9_init_48 : decode cX9_init 48 = .ok (.aload_n 0, 1) := by decide +kernel
theorem dX9_init_49 : decode cX9_init 49 = .ok (.bipush 96, 2) := by decide +kernel
theorem dX9_init_51 : decode cX9_init 51 = .ok (.newarray .boolean, 2) := by decide +kernel
theorem dX9_init_53 : decode cX9_init 53 = .ok (.putfield 26, 3) := by decide +kernel
theorem dX9_init_56 : decode cX9_init 56 = .ok (.aload_n 0, 1) := by decide +kernel
theorem dX9_init_57 : decode cX9_init 57 = .ok (.sipush 804, 3) := by decide +kernel
theorem dX9_init_60 : decode cX9_init 60 = .ok (.newarray .int, 2) := by decide +kernel
theorem dX9_init_62 : decode cX9_init 62 = .ok (.putfield 30, 3) := by decide +kernel
theorem dX9_init_65 : decode cX9_init 65 = .ok (.aload_n 0, 1) := by decide +kernel
theorem dX9_init_66 : decode cX9_init 66 = .ok (.sipush 201, 3) := by decide +kernel
theorem dX9_init_69 : decode cX9_init 69 = .ok (.newarray .int, 2) := by decide +kernel
theorem dX9_init_71 : decode cX9_init 71 = .ok (.putfield 33, 3) := by decide +kernel
theorem dX9_init_74 : decode cX9_init 74 = .ok (.aload_n 0, 1) := by decide +kernel
theorem dX9_init_75 : decode cX9_init 75 = .ok (.getfield 7, 3) := by decide +kernel
theorem dX9_init_78 : decode cX9_init 78 = .ok (.iconst 0, 1) := by decide +kernel
theorem dX9_init_79 : decode cX9_init 79 = .ok (.iload_n 1, 1) := by decide +kernel
theorem dX9_init_80 : decode cX9_init 80 = .ok (.ifCond .ge 7, 3) := by decide +kernel
theorem dX9_init_83 : decode cX9_init 83 = .ok (.iconst 0, 1) := by decide +kernel
theorem dX9_init_84 : decode cX9_init 84 = .ok (.goto 13, 3) := by decide +kernel
theorem dX9_init_87 : decode cX9_init 87 = .ok (.iload_n 1, 1) := by decide +kernel
theorem dX9_init_88 : decode cX9_init 88 = .ok (.iconst 3, 1) := by decide +kernel
theorem dX9_init_89 : decode cX9_init 89 = .ok (.if_icmp .le 7, 3) := by decide +kernel
theorem dX9_init_92 : decode cX9_init 92 = .ok (.iconst 3, 1) := by decide +kernel
theorem dX9_init_93 : decode cX9_init 93 = .ok (.goto 4, 3) := by decide +kernel
theorem dX9_init_96 : decode cX9_init 96 = .ok (.iload_n 1, 1) := by decide +kernel
theorem dX9_init_97 : decode cX9_init 97 = .ok (.iastore, 1) := by decide +kernel
theorem dX9_init_98 : decode cX9_init 98 = .ok (.aload_n 0, 1) := by decide +kernel
theorem dX9_init_99 : decode cX9_init 99 = .ok (.getfield 7, 3) := by decide +kernel
theorem dX9_init_102 : decode cX9_init 102 = .ok (.iconst 2, 1) := by decide +kernel
theorem dX9_init_103 : decode cX9_init 103 = .ok (.iconst 1, 1) := by decide +kernel
theorem dX9_init_104 : decode cX9_init 104 = .ok (.iastore, 1) := by decide +kernel
theorem dX9_init_105 : decode cX9_init 105 = .ok (.aload_n 0, 1) := by decide +kernel
theorem dX9_init_106 : decode cX9_init 106 = .ok (.getfield 7, 3) := by decide +kernel
theorem dX9_init_109 : decode cX9_init 109 = .ok (.iconst 3, 1) := by decide +kernel
theorem dX9_init_110 : decode cX9_init 110 = .ok (.sipush 200, 3) := by decide +kernel
theorem dX9_init_113 : decode cX9_init 113 = .ok (.iastore, 1) := by decide +kernel
theorem dX9_init_114 : decode cX9_init 114 = .ok (.return_, 1) := by decide +kernel
theorem dX9_in_0 : decode cX9_in 0 = .ok (.iload_n 0, 1) := by decide +kernel
theorem dX9_in_1 : decode cX9_in 1 = .ok (.iload_n 1, 1) := by decide +kernel
theorem dX9_in_2 : decode cX9_in 2 = .ok (.if_icmp .lt 12, 3) := by decide +kernel
theorem dX9_in_5 : decode cX9_in 5 = .ok (.iload_n 0, 1) := by decide +kernel
theorem dX9_in_6 : decode cX9_in 6 = .ok (.iload_n 2, 1) := by decide +kernel
theorem dX9_in_7 : decode cX9_in 7 = .ok (.if_icmp .gt 7, 3) := by decide +kernel
theorem dX9_in_10 : decode cX9_in 10 = .ok (.iconst 1, 1) := by decide +kernel
theorem dX9_in_11 : decode cX9_in 11 = .ok (.goto 4, 3) := by decide +kernel
theorem dX9_in_14 : decode cX9_in 14 = .ok (.iconst 0, 1) := by decide +kernel
theorem dX9_in_15 : decode cX9_in 15 = .ok (.ireturn, 1) := by decide +kernel
theorem dX9_keeps_0 : decode cX9_keeps 0 = .ok (.aload_n 0, 1) := by decide +kernel
theorem dX9_keeps_1 : decode cX9_keeps 1 = .ok (.getfield 36, 3) := by decide +kernel
theorem dX9_keeps_4 : decode cX9_keeps 4 = .ok (.iconst 4, 1) := by decide +kernel
theorem dX9_keeps_5 : decode cX9_keeps 5 = .ok (.if_icmp .ne 43, 3) := by decide +kernel
theorem dX9_keeps_8 : decode cX9_keeps 8 = .ok (.iconst 0, 1) := by decide +kernel
theorem dX9_keeps_9 : decode cX9_keeps 9 = .ok (.istore_n 2, 1) := by decide +kernel
theorem dX9_keeps_10 : decode cX9_keeps 10 = .ok (.iload_n 2, 1) := by decide +kernel
theorem dX9_keeps_11 : decode cX9_keeps 11 = .ok (.ldc 40, 2) := by decide +kernel
theorem dX9_keeps_13 : decode cX9_keeps 13 = .ok (.if_icmp .ge 25, 3) := by decide +kernel
theorem dX9_keeps_16 : decode cX9_keeps 16 = .ok (.aload_n 0, 1) := by decide +kernel
theorem dX9_keeps_17 : decode cX9_keeps 17 = .ok (.getfield 17, 3) := by decide +kernel
theorem dX9_keeps_20 : decode cX9_keeps 20 = .ok (.iload_n 2, 1) := by decide +kernel
theorem dX9_keeps_21 : decode cX9_keeps 21 = .ok (.aload_n 0, 1) := by decide +kernel
theorem dX9_keeps_22 : decode cX9_keeps 22 = .ok (.getfield 17, 3) := by decide +kernel
theorem dX9_keeps_25 : decode cX9_keeps 25 = .ok (.iload_n 2, 1) := by decide +kernel
theorem dX9_keeps_26 : decode cX9_keeps 26 = .ok (.sipush 25700, 3) := by decide +kernel
theorem dX9_keeps_29 : decode cX9_keeps 29 = .ok (.iadd, 1) := by decide +kernel
theorem dX9_keeps_30 : decode cX9_keeps 30 = .ok (.iaload, 1) := by decide +kernel
theorem dX9_keeps_31 : decode cX9_keeps 31 = .ok (.iastore, 1) := by decide +kernel
theorem dX9_keeps_32 : decode cX9_keeps 32 = .ok (.iinc 2 1, 3) := by decide +kernel
theorem dX9_keeps_35 : decode cX9_keeps 35 = .ok (.goto (-25), 3) := by decide +kernel
theorem dX9_keeps_38 : decode cX9_keeps 38 = .ok (.aload_n 0, 1) := by decide +kernel
theorem dX9_keeps_39 : decode cX9_keeps 39 = .ok (.dup, 1) := by decide +kernel
theorem dX9_keeps_40 : decode cX9_keeps 40 = .ok (.getfield 36, 3) := by decide +kernel
theorem dX9_keeps_43 : decode cX9_keeps 43 = .ok (.iconst 1, 1) := by decide +kernel
theorem dX9_keeps_44 : decode cX9_keeps 44 = .ok (.isub, 1) := by decide +kernel
theorem dX9_keeps_45 : decode cX9_keeps 45 = .ok (.putfield 36, 3) := by decide +kernel
theorem dX9_keeps_48 : decode cX9_keeps 48 = .ok (.iconst 0, 1) := by decide +kernel
theorem dX9_keeps_49 : decode cX9_keeps 49 = .ok (.istore_n 2, 1) := by decide +kernel
theorem dX9_keeps_50 : decode cX9_keeps 50 = .ok (.iload_n 2, 1) := by decide +kernel
theorem dX9_keeps_51 : decode cX9_keeps 51 = .ok (.sipush 25700, 3) := by decide +kernel
theorem dX9_keeps_54 : decode cX9_keeps 54 = .ok (.if_icmp .ge 27, 3) := by decide +kernel
theorem dX9_keeps_57 : decode cX9_keeps 57 = .ok (.aload_n 0, 1) := by decide +kernel
theorem dX9_keeps_58 : decode cX9_keeps 58 = .ok (.getfield 17, 3) := by decide +kernel
theorem dX9_keeps_61 : decode cX9_keeps 61 = .ok (.sipush 25700, 3) := by decide +kernel
theorem dX9_keeps_64 : decode cX9_keeps 64 = .ok (.aload_n 0, 1) := by decide +kernel
theorem dX9_keeps_65 : decode cX9_keeps 65 = .ok (.getfield 36, 3) := by decide +kernel
theorem dX9_keeps_68 : decode cX9_keeps 68 = .ok (.imul, 1) := by decide +kernel
theorem dX9_keeps_69 : decode cX9_keeps 69 = .ok (.iload_n 2, 1) := by decide +kernel
theorem dX9_keeps_70 : decode cX9_keeps 70 = .ok (.iadd, 1) := by decide +kernel
theorem dX9_keeps_71 : decode cX9_keeps 71 = .ok (.aload_n 1, 1) := by decide +kernel
theorem dX9_keeps_72 : decode cX9_keeps 72 = .ok (.iload_n 2, 1) := by decide +kernel
theorem dX9_keeps_73 : decode cX9_keeps 73 = .ok (.iaload, 1) := by decide +kernel
theorem dX9_keeps_74 : decode cX9_keeps 74 = .ok (.iastore, 1) := by decide +kernel
theorem dX9_keeps_75 : decode cX9_keeps 75 = .ok (.iinc 2 1, 3) := by decide +kernel
theorem dX9_keeps_78 : decode cX9_keeps 78 = .ok (.goto (-28), 3) := by decide +kernel
theorem dX9_keeps_81 : decode cX9_keeps 81 = .ok (.aload_n 0, 1) := by decide +kernel
theorem dX9_keeps_82 : decode cX9_keeps 82 = .ok (.dup, 1) := by decide +kernel
theorem dX9_keeps_83 : decode cX9_keeps 83 = .ok (.getfield 36, 3) := by decide +kernel
theorem dX9_keeps_86 : decode cX9_keeps 86 = .ok (.iconst 1, 1) := by decide +kernel
theorem dX9_keeps_87 : decode cX9_keeps 87 = .ok (.iadd, 1) := by decide +kernel
theorem dX9_keeps_88 : decode cX9_keeps 88 = .ok (.putfield 36, 3) := by decide +kernel
theorem dX9_keeps_91 : decode cX9_keeps 91 = .ok (.return_, 1) := by decide +kernel
theorem dX9_copies_0 : decode cX9_copies 0 = .ok (.iconst 0, 1) := by decide +kernel
theorem dX9_copies_1 : decode cX9_copies 1 = .ok (.istore_n 2, 1) := by decide +kernel
theorem dX9_copies_2 : decode cX9_copies 2 = .ok (.iload_n 2, 1) := by decide +kernel
theorem dX9_copies_3 : decode cX9_copies 3 = .ok (.sipush 25700, 3) := by decide +kernel
theorem dX9_copies_6 : decode cX9_copies 6 = .ok (.if_icmp .ge 15, 3) := by decide +kernel
theorem dX9_copies_9 : decode cX9_copies 9 = .ok (.aload_n 1, 1) := by decide +kernel
theorem dX9_copies_10 : decode cX9_copies 10 = .ok (.iload_n 2, 1) := by decide +kernel
theorem dX9_copies_11 : decode cX9_copies 11 = .ok (.aload_n 0, 1) := by decide +kernel
theorem dX9_copies_12 : decode cX9_copies 12 = .ok (.iload_n 2, 1) := by decide +kernel
theorem dX9_copies_13 : decode cX9_copies 13 = .ok (.iaload, 1) := by decide +kernel
theorem dX9_copies_14 : decode cX9_copies 14 = .ok (.iastore, 1) := by decide +kernel
theorem dX9_copies_15 : decode cX9_copies 15 = .ok (.iinc 2 1, 3) := by decide +kernel
theorem dX9_copies_18 : decode cX9_copies 18 = .ok (.goto (-16), 3) := by decide +kernel
theorem dX9_copies_21 : decode cX9_copies 21 = .ok (.return_, 1) := by decide +kernel
theorem dX9_sets_0 : decode cX9_sets 0 = .ok (.aload_n 0, 1) := by decide +kernel
theorem dX9_sets_1 : decode cX9_sets 1 = .ok (.aload_n 0, 1) := by decide +kernel
theorem dX9_sets_2 : decode cX9_sets 2 = .ok (.getfield 7, 3) := by decide +kernel
theorem dX9_sets_5 : decode cX9_sets 5 = .ok (.invokevirtual 41, 3) := by decide +kernel
theorem dX9_sets_8 : decode cX9_sets 8 = .ok (.aload_n 0, 1) := by decide +kernel
theorem dX9_sets_9 : decode cX9_sets 9 = .ok (.getfield 7, 3) := by decide +kernel
theorem dX9_sets_12 : decode cX9_sets 12 = .ok (.iload_n 1, 1) := by decide +kernel
theorem dX9_sets_13 : decode cX9_sets 13 = .ok (.iaload, 1) := by decide +kernel
theorem dX9_sets_14 : decode cX9_sets 14 = .ok (.istore_n 3, 1) := by decide +kernel
theorem dX9_sets_15 : decode cX9_sets 15 = .ok (.aload_n 0, 1) := by decide +kernel
theorem dX9_sets_16 : decode cX9_sets 16 = .ok (.getfield 7, 3) := by decide +kernel
theorem dX9_sets_19 : decode cX9_sets 19 = .ok (.iload_n 1, 1) := by decide +kernel
theorem dX9_sets_20 : decode cX9_sets 20 = .ok (.iload_n 2, 1) := by decide +kernel
theorem dX9_sets_21 : decode cX9_sets 21 = .ok (.iastore, 1) := by decide +kernel
theorem dX9_sets_22 : decode cX9_sets 22 = .ok (.iload_n 3, 1) := by decide +kernel
theorem dX9_sets_23 : decode cX9_sets 23 = .ok (.ireturn, 1) := by decide +kernel
theorem dX9_keyOf_0 : decode cX9_keyOf 0 = .ok (.iload_n 2, 1) := by decide +kernel
theorem dX9_keyOf_1 : decode cX9_keyOf 1 = .ok (.istore_n 3, 1) := by decide +kernel
theorem dX9_keyOf_2 : decode cX9_keyOf 2 = .ok (.iload_n 1, 1) := by decide +kernel
theorem dX9_keyOf_3 : decode cX9_keyOf 3 = .ok (.iload_n 2, 1) := by decide +kernel
theorem dX9_keyOf_4 : decode cX9_keyOf 4 = .ok (.isub, 1) := by decide +kernel
theorem dX9_keyOf_5 : decode cX9_keyOf 5 = .ok (.istore 4, 2) := by decide +kernel
theorem dX9_keyOf_7 : decode cX9_keyOf 7 = .ok (.iload 4, 2) := by decide +kernel
theorem dX9_keyOf_9 : decode cX9_keyOf 9 = .ok (.iload_n 1, 1) := by decide +kernel
theorem dX9_keyOf_10 : decode cX9_keyOf 10 = .ok (.if_icmp .ge 22, 3) := by decide +kernel
theorem dX9_keyOf_13 : decode cX9_keyOf 13 = .ok (.bipush 97, 2) := by decide +kernel
theorem dX9_keyOf_15 : decode cX9_keyOf 15 = .ok (.iload_n 3, 1) := by decide +kernel
theorem dX9_keyOf_16 : decode cX9_keyOf 16 = .ok (.imul, 1) := by decide +kernel
theorem dX9_keyOf_17 : decode cX9_keyOf 17 = .ok (.aload_n 0, 1) := by decide +kernel
theorem dX9_keyOf_18 : decode cX9_keyOf 18 = .ok (.iload 4, 2) := by decide +kernel
theorem dX9_keyOf_20 : decode cX9_keyOf 20 = .ok (.iaload, 1) := by decide +kernel
theorem dX9_keyOf_21 : decode cX9_keyOf 21 = .ok (.iadd, 1) := by decide +kernel
theorem dX9_keyOf_22 : decode cX9_keyOf 22 = .ok (.bipush 31, 2) := by decide +kernel
theorem dX9_keyOf_24 : decode cX9_keyOf 24 = .ok (.isub, 1) := by decide +kernel
theorem dX9_keyOf_25 : decode cX9_keyOf 25 = .ok (.istore_n 3, 1) := by decide +kernel
theorem dX9_keyOf_26 : decode cX9_keyOf 26 = .ok (.iinc 4 1, 3) := by decide +kernel
theorem dX9_keyOf_29 : decode cX9_keyOf 29 = .ok (.goto (-22), 3) := by decide +kernel
theorem dX9_keyOf_32 : decode cX9_keyOf 32 = .ok (.iload_n 3, 1) := by decide +kernel
theorem dX9_keyOf_33 : decode cX9_keyOf 33 = .ok (.ireturn, 1) := by decide +kernel
theorem dX9_find_0 : decode cX9_find 0 = .ok (.aload_n 1, 1) := by decide +kernel
theorem dX9_find_1 : decode cX9_find 1 = .ok (.iload_n 2, 1) := by decide +kernel
theorem dX9_find_2 : decode cX9_find 2 = .ok (.iload_n 3, 1) := by decide +kernel
theorem dX9_find_3 : decode cX9_find 3 = .ok (.invokestatic 45, 3) := by decide +kernel
theorem dX9_find_6 : decode cX9_find 6 = .ok (.istore 4, 2) := by decide +kernel
theorem dX9_find_8 : decode cX9_find 8 = .ok (.iconst 0, 1) := by decide +kernel
theorem dX9_find_9 : decode cX9_find 9 = .ok (.istore 5, 2) := by decide +kernel
theorem dX9_find_11 : decode cX9_find 11 = .ok (.iload 5, 2) := by decide +kernel
theorem dX9_find_13 : decode cX9_find 13 = .ok (.aload_n 0, 1) := by decide +kernel
theorem dX9_find_14 : decode cX9_find 14 = .ok (.getfield 7, 3) := by decide +kernel
theorem dX9_find_17 : decode cX9_find 17 = .ok (.iconst 4, 1) := by decide +kernel
theorem dX9_find_18 : decode cX9_find 18 = .ok (.iaload, 1) := by decide +kernel
theorem dX9_find_19 : decode cX9_find 19 = .ok (.if_icmp .ge 27, 3) := by decide +kernel
theorem dX9_find_22 : decode cX9_find 22 = .ok (.aload_n 0, 1) := by decide +kernel
theorem dX9_find_23 : decode cX9_find 23 = .ok (.getfield 7, 3) := by decide +kernel
theorem dX9_find_26 : decode cX9_find 26 = .ok (.bipush 10, 2) := by decide +kernel
theorem dX9_find_28 : decode cX9_find 28 = .ok (.iload 5, 2) := by decide +kernel
theorem dX9_find_30 : decode cX9_find 30 = .ok (.iadd, 1) := by decide +kernel
theorem dX9_find_31 : decode cX9_find 31 = .ok (.iaload, 1) := by decide +kernel
theorem dX9_find_32 : decode cX9_find 32 = .ok (.iload 4, 2) := by decide +kernel
theorem dX9_find_34 : decode cX9_find 34 = .ok (.if_icmp .ne 6, 3) := by decide +kernel
theorem dX9_find_37 : decode cX9_find 37 = .ok (.iload 5, 2) := by decide +kernel
theorem dX9_find_39 : decode cX9_find 39 = .ok (.ireturn, 1) := by decide +kernel
theorem dX9_find_40 : decode cX9_find 40 = .ok (.iinc 5 1, 3) := by decide +kernel
theorem dX9_find_43 : decode cX9_find 43 = .ok (.goto (-32), 3) := by decide +kernel
theorem dX9_find_46 : decode cX9_find 46 = .ok (.iconst (-1), 1) := by decide +kernel
theorem dX9_find_47 : decode cX9_find 47 = .ok (.ireturn, 1) := by decide +kernel
theorem dX9_countAt_0 : decode cX9_countAt 0 = .ok (.aload_n 0, 1) := by decide +kernel
theorem dX9_countAt_1 : decode cX9_countAt 1 = .ok (.getfield 7, 3) := by decide +kernel
theorem dX9_countAt_4 : decode cX9_countAt 4 = .ok (.sipush 260, 3) := by decide +kernel
theorem dX9_countAt_7 : decode cX9_countAt 7 = .ok (.bipush 96, 2) := by decide +kernel
theorem dX9_countAt_9 : decode cX9_countAt 9 = .ok (.iload_n 1, 1) := by decide +kernel
theorem dX9_countAt_10 : decode cX9_countAt 10 = .ok (.imul, 1) := by decide +kernel
theorem dX9_countAt_11 : decode cX9_countAt 11 = .ok (.iadd, 1) := by decide +kernel
theorem dX9_countAt_12 : decode cX9_countAt 12 = .ok (.iload_n 2, 1) := by decide +kernel
theorem dX9_countAt_13 : decode cX9_countAt 13 = .ok (.iadd, 1) := by decide +kernel
theorem dX9_countAt_14 : decode cX9_countAt 14 = .ok (.iaload, 1) := by decide +kernel
theorem dX9_countAt_15 : decode cX9_countAt 15 = .ok (.ireturn, 1) := by decide +kernel
theorem dX9_weightOf_0 : decode cX9_weightOf 0 = .ok (.iconst 0, 1) := by decide +kernel
theorem dX9_weightOf_1 : decode cX9_weightOf 1 = .ok (.istore_n 2, 1) := by decide +kernel
theorem dX9_weightOf_2 : decode cX9_weightOf 2 = .ok (.iconst 0, 1) := by decide +kernel
theorem dX9_weightOf_3 : decode cX9_weightOf 3 = .ok (.istore_n 3, 1) := by decide +kernel
theorem dX9_weightOf_4 : decode cX9_weightOf 4 = .ok (.iload_n 3, 1) := by decide +kernel
theorem dX9_weightOf_5 : decode cX9_weightOf 5 = .ok (.bipush 96, 2) := by decide +kernel
theorem dX9_weightOf_7 : decode cX9_weightOf 7 = .ok (.if_icmp .ge 18, 3) := by decide +kernel
theorem dX9_weightOf_10 : decode cX9_weightOf 10 = .ok (.iload_n 2, 1) := by decide +kernel
theorem dX9_weightOf_11 : decode cX9_weightOf 11 = .ok (.aload_n 0, 1) := by decide +kernel
theorem dX9_weightOf_12 : decode cX9_weightOf 12 = .ok (.iload_n 1, 1) := by decide +kernel
theorem dX9_weightOf_13 : decode cX9_weightOf 13 = .ok (.iload_n 3, 1) := by decide +kernel
theorem dX9_weightOf_14 : decode cX9_weightOf 14 = .ok (.invokevirtual 49, 3) := by decide +kernel
theorem dX9_weightOf_17 : decode cX9_weightOf 17 = .ok (.iadd, 1) := by decide +kernel
theorem dX9_weightOf_18 : decode cX9_weightOf 18 = .ok (.istore_n 2, 1) := by decide +kernel
theorem dX9_weightOf_19 : decode cX9_weightOf 19 = .ok (.iinc 3 1, 3) := by decide +kernel
theorem dX9_weightOf_22 : decode cX9_weightOf 22 = .ok (.goto (-18), 3) := by decide +kernel
theorem dX9_weightOf_25 : decode cX9_weightOf 25 = .ok (.iload_n 2, 1) := by decide +kernel
theorem dX9_weightOf_26 : decode cX9_weightOf 26 = .ok (.ireturn, 1) := by decide +kernel
theorem dX9_counts_0 : decode cX9_counts 0 = .ok (.aload_n 0, 1) := by decide +kernel
theorem dX9_counts_1 : decode cX9_counts 1 = .ok (.getfield 7, 3) := by decide +kernel
theorem dX9_counts_4 : decode cX9_counts 4 = .ok (.sipush 260, 3) := by decide +kernel
theorem dX9_counts_7 : decode cX9_counts 7 = .ok (.bipush 96, 2) := by decide +kernel
theorem dX9_counts_9 : decode cX9_counts 9 = .ok (.iload_n 1, 1) := by decide +kernel
theorem dX9_counts_10 : decode cX9_counts 10 = .ok (.imul, 1) := by decide +kernel
theorem dX9_counts_11 : decode cX9_counts 11 = .ok (.iadd, 1) := by decide +kernel
theorem dX9_counts_12 : decode cX9_counts 12 = .ok (.iload_n 2, 1) := by decide +kernel
theorem dX9_counts_13 : decode cX9_counts 13 = .ok (.iadd, 1) := by decide +kernel
theorem dX9_counts_14 : decode cX9_counts 14 = .ok (.dup2, 1) := by decide +kernel
theorem dX9_counts_15 : decode cX9_counts 15 = .ok (.iaload, 1) := by decide +kernel
theorem dX9_counts_16 : decode cX9_counts 16 = .ok (.aload_n 0, 1) := by decide +kernel
theorem dX9_counts_17 : decode cX9_counts 17 = .ok (.getfield 7, 3) := by decide +kernel
theorem dX9_counts_20 : decode cX9_counts 20 = .ok (.iconst 2, 1) := by decide +kernel
theorem dX9_counts_21 : decode cX9_counts 21 = .ok (.iaload, 1) := by decide +kernel
theorem dX9_counts_22 : decode cX9_counts 22 = .ok (.iadd, 1) := by decide +kernel
theorem dX9_counts_23 : decode cX9_counts 23 = .ok (.iastore, 1) := by decide +kernel
theorem dX9_counts_24 : decode cX9_counts 24 = .ok (.aload_n 0, 1) := by decide +kernel
theorem dX9_counts_25 : decode cX9_counts 25 = .ok (.iload_n 1, 1) := by decide +kernel
theorem dX9_counts_26 : decode cX9_counts 26 = .ok (.invokevirtual 53, 3) := by decide +kernel
theorem dX9_counts_29 : decode cX9_counts 29 = .ok (.aload_n 0, 1) := by decide +kernel
theorem dX9_counts_30 : decode cX9_counts 30 = .ok (.getfield 7, 3) := by decide +kernel
theorem dX9_counts_33 : decode cX9_counts 33 = .ok (.iconst 3, 1) := by decide +kernel
theorem dX9_counts_34 : decode cX9_counts 34 = .ok (.iaload, 1) := by decide +kernel
theorem dX9_counts_35 : decode cX9_counts 35 = .ok (.if_icmp .le 42, 3) := by decide +kernel
theorem dX9_counts_38 : decode cX9_counts 38 = .ok (.iconst 0, 1) := by decide +kernel
theorem dX9_counts_39 : decode cX9_counts 39 = .ok (.istore_n 3, 1) := by decide +kernel
theorem dX9_counts_40 : decode cX9_counts 40 = .ok (.iload_n 3, 1) := by decide +kernel
theorem dX9_counts_41 : decode cX9_counts 41 = .ok (.bipush 96, 2) := by decide +kernel
theorem dX9_counts_43 : decode cX9_counts 43 = .ok (.if_icmp .ge 34, 3) := by decide +kernel
theorem dX9_counts_46 : decode cX9_counts 46 = .ok (.aload_n 0, 1) := by decide +kernel
theorem dX9_counts_47 : decode cX9_counts 47 = .ok (.getfield 7, 3) := by decide +kernel
theorem dX9_counts_50 : decode cX9_counts 50 = .ok (.sipush 260, 3) := by decide +kernel
theorem dX9_counts_53 : decode cX9_counts 53 = .ok (.bipush 96, 2) := by decide +kernel
theorem dX9_counts_55 : decode cX9_counts 55 = .ok (.iload_n 1, 1) := by decide +kernel
theorem dX9_counts_56 : decode cX9_counts 56 = .ok (.imul, 1) := by decide +kernel
theorem dX9_counts_57 : decode cX9_counts 57 = .ok (.iadd, 1) := by decide +kernel
theorem dX9_counts_58 : decode cX9_counts 58 = .ok (.iload_n 3, 1) := by decide +kernel
theorem dX9_counts_59 : decode cX9_counts 59 = .ok (.iadd, 1) := by decide +kernel
theorem dX9_counts_60 : decode cX9_counts 60 = .ok (.aload_n 0, 1) := by decide +kernel
theorem dX9_counts_61 : decode cX9_counts 61 = .ok (.iload_n 1, 1) := by decide +kernel
theorem dX9_counts_62 : decode cX9_counts 62 = .ok (.iload_n 3, 1) := by decide +kernel
theorem dX9_counts_63 : decode cX9_counts 63 = .ok (.invokevirtual 49, 3) := by decide +kernel
theorem dX9_counts_66 : decode cX9_counts 66 = .ok (.iconst 1, 1) := by decide +kernel
theorem dX9_counts_67 : decode cX9_counts 67 = .ok (.iadd, 1) := by decide +kernel
theorem dX9_counts_68 : decode cX9_counts 68 = .ok (.iconst 2, 1) := by decide +kernel
theorem dX9_counts_69 : decode cX9_counts 69 = .ok (.idiv, 1) := by decide +kernel
theorem dX9_counts_70 : decode cX9_counts 70 = .ok (.iastore, 1) := by decide +kernel
theorem dX9_counts_71 : decode cX9_counts 71 = .ok (.iinc 3 1, 3) := by decide +kernel
theorem dX9_counts_74 : decode cX9_counts 74 = .ok (.goto (-34), 3) := by decide +kernel
theorem dX9_counts_77 : decode cX9_counts 77 = .ok (.return_, 1) := by decide +kernel
theorem dX9_learns_0 : decode cX9_learns 0 = .ok (.iconst 0, 1) := by decide +kernel
theorem dX9_learns_1 : decode cX9_learns 1 = .ok (.istore 4, 2) := by decide +kernel
theorem dX9_learns_3 : decode cX9_learns 3 = .ok (.iload 4, 2) := by decide +kernel
theorem dX9_learns_5 : decode cX9_learns 5 = .ok (.aload_n 0, 1) := by decide +kernel
theorem dX9_learns_6 : decode cX9_learns 6 = .ok (.getfield 7, 3) := by decide +kernel
theorem dX9_learns_9 : decode cX9_learns 9 = .ok (.iconst 0, 1) := by decide +kernel
theorem dX9_learns_10 : decode cX9_learns 10 = .ok (.iaload, 1) := by decide +kernel
theorem dX9_learns_11 : decode cX9_learns 11 = .ok (.if_icmp .gt 123, 3) := by decide +kernel
theorem dX9_learns_14 : decode cX9_learns 14 = .ok (.iload 4, 2) := by decide +kernel
theorem dX9_learns_16 : decode cX9_learns 16 = .ok (.iload_n 2, 1) := by decide +kernel
theorem dX9_learns_17 : decode cX9_learns 17 = .ok (.if_icmp .gt 117, 3) := by decide +kernel
theorem dX9_learns_20 : decode cX9_learns 20 = .ok (.aload_n 0, 1) := by decide +kernel
theorem dX9_learns_21 : decode cX9_learns 21 = .ok (.aload_n 1, 1) := by decide +kernel
theorem dX9_learns_22 : decode cX9_learns 22 = .ok (.iload_n 2, 1) := by decide +kernel
theorem dX9_learns_23 : decode cX9_learns 23 = .ok (.iload 4, 2) := by decide +kernel
theorem dX9_learns_25 : decode cX9_learns 25 = .ok (.invokevirtual 57, 3) := by decide +kernel
theorem dX9_learns_28 : decode cX9_learns 28 = .ok (.istore 5, 2) := by decide +kernel
theorem dX9_learns_30 : decode cX9_learns 30 = .ok (.iload 5, 2) := by decide +kernel
theorem dX9_learns_32 : decode cX9_learns 32 = .ok (.ifCond .ge 84, 3) := by decide +kernel
theorem dX9_learns_35 : decode cX9_learns 35 = .ok (.aload_n 0, 1) := by decide +kernel
theorem dX9_learns_36 : decode cX9_learns 36 = .ok (.getfield 7, 3) := by decide +kernel
theorem dX9_learns_39 : decode cX9_learns 39 = .ok (.iconst 4, 1) := by decide +kernel
theorem dX9_learns_40 : decode cX9_learns 40 = .ok (.iaload, 1) := by decide +kernel
theorem dX9_learns_41 : decode cX9_learns 41 = .ok (.sipush 250, 3) := by decide +kernel
theorem dX9_learns_44 : decode cX9_learns 44 = .ok (.if_icmp .ge 72, 3) := by decide +kernel
theorem dX9_learns_47 : decode cX9_learns 47 = .ok (.aload_n 0, 1) := by decide +kernel
theorem dX9_learns_48 : decode cX9_learns 48 = .ok (.getfield 7, 3) := by decide +kernel
theorem dX9_learns_51 : decode cX9_learns 51 = .ok (.iconst 4, 1) := by decide +kernel
theorem dX9_learns_52 : decode cX9_learns 52 = .ok (.iaload, 1) := by decide +kernel
theorem dX9_learns_53 : decode cX9_learns 53 = .ok (.istore 5, 2) := by decide +kernel
theorem dX9_learns_55 : decode cX9_learns 55 = .ok (.aload_n 0, 1) := by decide +kernel
theorem dX9_learns_56 : decode cX9_learns 56 = .ok (.getfield 7, 3) := by decide +kernel
theorem dX9_learns_59 : decode cX9_learns 59 = .ok (.bipush 10, 2) := by decide +kernel
theorem dX9_learns_61 : decode cX9_learns 61 = .ok (.iload 5, 2) := by decide +kernel
theorem dX9_learns_63 : decode cX9_learns 63 = .ok (.iadd, 1) := by decide +kernel
theorem dX9_learns_64 : decode cX9_learns 64 = .ok (.aload_n 1, 1) := by decide +kernel
theorem dX9_learns_65 : decode cX9_learns 65 = .ok (.iload_n 2, 1) := by decide +kernel
theorem dX9_learns_66 : decode cX9_learns 66 = .ok (.iload 4, 2) := by decide +kernel
theorem dX9_learns_68 : decode cX9_learns 68 = .ok (.invokestatic 45, 3) := by decide +kernel
theorem dX9_learns_71 : decode cX9_learns 71 = .ok (.iastore, 1) := by decide +kernel
theorem dX9_learns_72 : decode cX9_learns 72 = .ok (.iconst 0, 1) := by decide +kernel
theorem dX9_learns_73 : decode cX9_learns 73 = .ok (.istore 6, 2) := by decide +kernel
theorem dX9_learns_75 : decode cX9_learns 75 = .ok (.iload 6, 2) := by decide +kernel
theorem dX9_learns_77 : decode cX9_learns 77 = .ok (.bipush 96, 2) := by decide +kernel
theorem dX9_learns_79 : decode cX9_learns 79 = .ok (.if_icmp .ge 27, 3) := by decide +kernel
theorem dX9_learns_82 : decode cX9_learns 82 = .ok (.aload_n 0, 1) := by decide +kernel
theorem dX9_learns_83 : decode cX9_learns 83 = .ok (.getfield 7, 3) := by decide +kernel
theorem dX9_learns_86 : decode cX9_learns 86 = .ok (.sipush 260, 3) := by decide +kernel
theorem dX9_learns_89 : decode cX9_learns 89 = .ok (.bipush 96, 2) := by decide +kernel
theorem dX9_learns_91 : decode cX9_learns 91 = .ok (.iload 5, 2) := by decide +kernel
theorem dX9_learns_93 : decode cX9_learns 93 = .ok (.imul, 1) := by decide +kernel
theorem dX9_learns_94 : decode cX9_learns 94 = .ok (.iadd, 1) := by decide +kernel
theorem dX9_learns_95 : decode cX9_learns 95 = .ok (.iload 6, 2) := by decide +kernel
theorem dX9_learns_97 : decode cX9_learns 97 = .ok (.iadd, 1) := by decide +kernel
theorem dX9_learns_98 : decode cX9_learns 98 = .ok (.iconst 0, 1) := by decide +kernel
theorem dX9_learns_99 : decode cX9_learns 99 = .ok (.iastore, 1) := by decide +kernel
theorem dX9_learns_100 : decode cX9_learns 100 = .ok (.iinc 6 1, 3) := by decide +kernel
theorem dX9_learns_103 : decode cX9_learns 103 = .ok (.goto (-28), 3) := by decide +kernel
theorem dX9_learns_106 : decode cX9_learns 106 = .ok (.aload_n 0, 1) := by decide +kernel
theorem dX9_learns_107 : decode cX9_learns 107 = .ok (.getfield 7, 3) := by decide +kernel
theorem dX9_learns_110 : decode cX9_learns 110 = .ok (.iconst 4, 1) := by decide +kernel
theorem dX9_learns_111 : decode cX9_learns 111 = .ok (.dup2, 1) := by decide +kernel
theorem dX9_learns_112 : decode cX9_learns 112 = .ok (.iaload, 1) := by decide +kernel
theorem dX9_learns_113 : decode cX9_learns 113 = .ok (.iconst 1, 1) := by decide +kernel
theorem dX9_learns_114 : decode cX9_learns 114 = .ok (.iadd, 1) := by decide +kernel
theorem dX9_learns_115 : decode cX9_learns 115 = .ok (.iastore, 1) := by decide +kernel
theorem dX9_learns_116 : decode cX9_learns 116 = .ok (.iload 5, 2) := by decide +kernel
theorem dX9_learns_118 : decode cX9_learns 118 = .ok (.ifCond .lt 10, 3) := by decide +kernel
theorem dX9_learns_121 : decode cX9_learns 121 = .ok (.aload_n 0, 1) := by decide +kernel
theorem dX9_learns_122 : decode cX9_learns 122 = .ok (.iload 5, 2) := by decide +kernel
theorem dX9_learns_124 : decode cX9_learns 124 = .ok (.iload_n 3, 1) := by decide +kernel
theorem dX9_learns_125 : decode cX9_learns 125 = .ok (.invokevirtual 60, 3) := by decide +kernel
theorem dX9_learns_128 : decode cX9_learns 128 = .ok (.iinc 4 1, 3) := by decide +kernel
theorem dX9_learns_131 : decode cX9_learns 131 = .ok (.goto (-128), 3) := by decide +kernel
theorem dX9_learns_134 : decode cX9_learns 134 = .ok (.return_, 1) := by decide +kernel
theorem dX9_starts_0 : decode cX9_starts 0 = .ok (.aload_n 0, 1) := by decide +kernel
theorem dX9_starts_1 : decode cX9_starts 1 = .ok (.lconst 0, 1) := by decide +kernel
theorem dX9_starts_2 : decode cX9_starts 2 = .ok (.putfield 64, 3) := by decide +kernel
theorem dX9_starts_5 : decode cX9_starts 5 = .ok (.aload_n 0, 1) := by decide +kernel
theorem dX9_starts_6 : decode cX9_starts 6 = .ok (.ldc2_w 68, 3) := by decide +kernel
theorem dX9_starts_9 : decode cX9_starts 9 = .ok (.putfield 70, 3) := by decide +kernel
theorem dX9_starts_12 : decode cX9_starts 12 = .ok (.aload_n 0, 1) := by decide +kernel
theorem dX9_starts_13 : decode cX9_starts 13 = .ok (.iconst 0, 1) := by decide +kernel
theorem dX9_starts_14 : decode cX9_starts 14 = .ok (.putfield 73, 3) := by decide +kernel
theorem dX9_starts_17 : decode cX9_starts 17 = .ok (.aload_n 0, 1) := by decide +kernel
theorem dX9_starts_18 : decode cX9_starts 18 = .ok (.iconst 0, 1) := by decide +kernel
theorem dX9_starts_19 : decode cX9_starts 19 = .ok (.putfield 76, 3) := by decide +kernel
theorem dX9_starts_22 : decode cX9_starts 22 = .ok (.return_, 1) := by decide +kernel
theorem dX9_carries_0 : decode cX9_carries 0 = .ok (.iconst 1, 1) := by decide +kernel
theorem dX9_carries_1 : decode cX9_carries 1 = .ok (.istore_n 1, 1) := by decide +kernel
theorem dX9_carries_2 : decode cX9_carries 2 = .ok (.aload_n 0, 1) := by decide +kernel
theorem dX9_carries_3 : decode cX9_carries 3 = .ok (.getfield 73, 3) := by decide +kernel
theorem dX9_carries_6 : decode cX9_carries 6 = .ok (.iconst 1, 1) := by decide +kernel
theorem dX9_carries_7 : decode cX9_carries 7 = .ok (.isub, 1) := by decide +kernel
theorem dX9_carries_8 : decode cX9_carries 8 = .ok (.istore_n 2, 1) := by decide +kernel
theorem dX9_carries_9 : decode cX9_carries 9 = .ok (.aload_n 0, 1) := by decide +kernel
theorem dX9_carries_10 : decode cX9_carries 10 = .ok (.getfield 23, 3) := by decide +kernel
theorem dX9_carries_13 : decode cX9_carries 13 = .ok (.iload_n 2, 1) := by decide +kernel
theorem dX9_carries_14 : decode cX9_carries 14 = .ok (.iaload, 1) := by decide +kernel
theorem dX9_carries_15 : decode cX9_carries 15 = .ok (.sipush 255, 3) := by decide +kernel
theorem dX9_carries_18 : decode cX9_carries 18 = .ok (.if_icmp .ne 19, 3) := by decide +kernel
theorem dX9_carries_21 : decode cX9_carries 21 = .ok (.aload_n 0, 1) := by decide +kernel
theorem dX9_carries_22 : decode cX9_carries 22 = .ok (.getfield 23, 3) := by decide +kernel
theorem dX9_carries_25 : decode cX9_carries 25 = .ok (.iload_n 2, 1) := by decide +kernel
theorem dX9_carries_26 : decode cX9_carries 26 = .ok (.iconst 0, 1) := by decide +kernel
theorem dX9_carries_27 : decode cX9_carries 27 = .ok (.iastore, 1) := by decide +kernel
theorem dX9_carries_28 : decode cX9_carries 28 = .ok (.iinc 2 (-1), 3) := by decide +kernel
theorem dX9_carries_31 : decode cX9_carries 31 = .ok (.iinc 1 1, 3) := by decide +kernel
theorem dX9_carries_34 : decode cX9_carries 34 = .ok (.goto (-25), 3) := by decide +kernel
theorem dX9_carries_37 : decode cX9_carries 37 = .ok (.aload_n 0, 1) := by decide +kernel
theorem dX9_carries_38 : decode cX9_carries 38 = .ok (.getfield 23, 3) := by decide +kernel
theorem dX9_carries_41 : decode cX9_carries 41 = .ok (.iload_n 2, 1) := by decide +kernel
theorem dX9_carries_42 : decode cX9_carries 42 = .ok (.dup2, 1) := by decide +kernel
theorem dX9_carries_43 : decode cX9_carries 43 = .ok (.iaload, 1) := by decide +kernel
theorem dX9_carries_44 : decode cX9_carries 44 = .ok (.iconst 1, 1) := by decide +kernel
theorem dX9_carries_45 : decode cX9_carries 45 = .ok (.iadd, 1) := by decide +kernel
theorem dX9_carries_46 : decode cX9_carries 46 = .ok (.iastore, 1) := by decide +kernel
theorem dX9_carries_47 : decode cX9_carries 47 = .ok (.aload_n 0, 1) := by decide +kernel
theorem dX9_carries_48 : decode cX9_carries 48 = .ok (.iload_n 1, 1) := by decide +kernel
theorem dX9_carries_49 : decode cX9_carries 49 = .ok (.aload_n 0, 1) := by decide +kernel
theorem dX9_carries_50 : decode cX9_carries 50 = .ok (.getfield 76, 3) := by decide +kernel
theorem dX9_carries_53 : decode cX9_carries 53 = .ok (.if_icmp .le 7, 3) := by decide +kernel
theorem dX9_carries_56 : decode cX9_carries 56 = .ok (.iload_n 1, 1) := by decide +kernel
theorem dX9_carries_57 : decode cX9_carries 57 = .ok (.goto 7, 3) := by decide +kernel
theorem dX9_carries_60 : decode cX9_carries 60 = .ok (.aload_n 0, 1) := by decide +kernel
theorem dX9_carries_61 : decode cX9_carries 61 = .ok (.getfield 76, 3) := by decide +kernel
theorem dX9_carries_64 : decode cX9_carries 64 = .ok (.putfield 76, 3) := by decide +kernel
theorem dX9_carries_67 : decode cX9_carries 67 = .ok (.return_, 1) := by decide +kernel
theorem dX9_writes_0 : decode cX9_writes 0 = .ok (.aload_n 0, 1) := by decide +kernel
theorem dX9_writes_1 : decode cX9_writes 1 = .ok (.getfield 70, 3) := by decide +kernel
theorem dX9_writes_4 : decode cX9_writes 4 = .ok (.lload 5, 2) := by decide +kernel
theorem dX9_writes_6 : decode cX9_writes 6 = .ok (.ldiv, 1) := by decide +kernel
theorem dX9_writes_7 : decode cX9_writes 7 = .ok (.lstore 7, 2) := by decide +kernel
theorem dX9_writes_9 : decode cX9_writes 9 = .ok (.aload_n 0, 1) := by decide +kernel
theorem dX9_writes_10 : decode cX9_writes 10 = .ok (.dup, 1) := by decide +kernel
theorem dX9_writes_11 : decode cX9_writes 11 = .ok (.getfield 64, 3) := by decide +kernel
theorem dX9_writes_14 : decode cX9_writes 14 = .ok (.lload 7, 2) := by decide +kernel
theorem dX9_writes_16 : decode cX9_writes 16 = .ok (.lload_n 1, 1) := by decide +kernel
theorem dX9_writes_17 : decode cX9_writes 17 = .ok (.lmul, 1) := by decide +kernel
theorem dX9_writes_18 : decode cX9_writes 18 = .ok (.ladd, 1) := by decide +kernel
theorem dX9_writes_19 : decode cX9_writes 19 = .ok (.putfield 64, 3) := by decide +kernel
theorem dX9_writes_22 : decode cX9_writes 22 = .ok (.aload_n 0, 1) := by decide +kernel
theorem dX9_writes_23 : decode cX9_writes 23 = .ok (.lload_n 3, 1) := by decide +kernel
theorem dX9_writes_24 : decode cX9_writes 24 = .ok (.lload 5, 2) := by decide +kernel
theorem dX9_writes_26 : decode cX9_writes 26 = .ok (.lcmp, 1) := by decide +kernel
theorem dX9_writes_27 : decode cX9_writes 27 = .ok (.ifCond .ge 12, 3) := by decide +kernel
theorem dX9_writes_30 : decode cX9_writes 30 = .ok (.lload 7, 2) := by decide +kernel
theorem dX9_writes_32 : decode cX9_writes 32 = .ok (.lload_n 3, 1) := by decide +kernel
theorem dX9_writes_33 : decode cX9_writes 33 = .ok (.lload_n 1, 1) := by decide +kernel
theorem dX9_writes_34 : decode cX9_writes 34 = .ok (.lsub, 1) := by decide +kernel
theorem dX9_writes_35 : decode cX9_writes 35 = .ok (.lmul, 1) := by decide +kernel
theorem dX9_writes_36 : decode cX9_writes 36 = .ok (.goto 12, 3) := by decide +kernel
theorem dX9_writes_39 : decode cX9_writes 39 = .ok (.aload_n 0, 1) := by decide +kernel
theorem dX9_writes_40 : decode cX9_writes 40 = .ok (.getfield 70, 3) := by decide +kernel
theorem dX9_writes_43 : decode cX9_writes 43 = .ok (.lload 7, 2) := by decide +kernel
theorem dX9_writes_45 : decode cX9_writes 45 = .ok (.lload_n 1, 1) := by decide +kernel
theorem dX9_writes_46 : decode cX9_writes 46 = .ok (.lmul, 1) := by decide +kernel
theorem dX9_writes_47 : decode cX9_writes 47 = .ok (.lsub, 1) := by decide +kernel
theorem dX9_writes_48 : decode cX9_writes 48 = .ok (.putfield 70, 3) := by decide +kernel
theorem dX9_writes_51 : decode cX9_writes 51 = .ok (.aload_n 0, 1) := by decide +kernel
theorem dX9_writes_52 : decode cX9_writes 52 = .ok (.getfield 64, 3) := by decide +kernel
theorem dX9_writes_55 : decode cX9_writes 55 = .ok (.ldc2_w 68, 3) := by decide +kernel
theorem dX9_writes_58 : decode cX9_writes 58 = .ok (.lcmp, 1) := by decide +kernel
theorem dX9_writes_59 : decode cX9_writes 59 = .ok (.ifCond .lt 19, 3) := by decide +kernel
theorem dX9_writes_62 : decode cX9_writes 62 = .ok (.aload_n 0, 1) := by decide +kernel
theorem dX9_writes_63 : decode cX9_writes 63 = .ok (.dup, 1) := by decide +kernel
theorem dX9_writes_64 : decode cX9_writes 64 = .ok (.getfield 64, 3) := by decide +kernel
theorem dX9_writes_67 : decode cX9_writes 67 = .ok (.ldc2_w 68, 3) := by decide +kernel
theorem dX9_writes_70 : decode cX9_writes 70 = .ok (.lsub, 1) := by decide +kernel
theorem dX9_writes_71 : decode cX9_writes 71 = .ok (.putfield 64, 3) := by decide +kernel
theorem dX9_writes_74 : decode cX9_writes 74 = .ok (.aload_n 0, 1) := by decide +kernel
theorem dX9_writes_75 : decode cX9_writes 75 = .ok (.invokevirtual 79, 3) := by decide +kernel
theorem dX9_writes_78 : decode cX9_writes 78 = .ok (.aload_n 0, 1) := by decide +kernel
theorem dX9_writes_79 : decode cX9_writes 79 = .ok (.getfield 70, 3) := by decide +kernel
theorem dX9_writes_82 : decode cX9_writes 82 = .ok (.ldc2_w 82, 3) := by decide +kernel
theorem dX9_writes_85 : decode cX9_writes 85 = .ok (.lcmp, 1) := by decide +kernel
theorem dX9_writes_86 : decode cX9_writes 86 = .ok (.ifCond .gt 62, 3) := by decide +kernel
theorem dX9_writes_89 : decode cX9_writes 89 = .ok (.aload_n 0, 1) := by decide +kernel
theorem dX9_writes_90 : decode cX9_writes 90 = .ok (.getfield 23, 3) := by decide +kernel
theorem dX9_writes_93 : decode cX9_writes 93 = .ok (.aload_n 0, 1) := by decide +kernel
theorem dX9_writes_94 : decode cX9_writes 94 = .ok (.getfield 73, 3) := by decide +kernel
theorem dX9_writes_97 : decode cX9_writes 97 = .ok (.aload_n 0, 1) := by decide +kernel
theorem dX9_writes_98 : decode cX9_writes 98 = .ok (.getfield 64, 3) := by decide +kernel
theorem dX9_writes_101 : decode cX9_writes 101 = .ok (.ldc2_w 82, 3) := by decide +kernel
theorem dX9_writes_104 : decode cX9_writes 104 = .ok (.ldiv, 1) := by decide +kernel
theorem dX9_writes_105 : decode cX9_writes 105 = .ok (.l2i, 1) := by decide +kernel
theorem dX9_writes_106 : decode cX9_writes 106 = .ok (.iastore, 1) := by decide +kernel
theorem dX9_writes_107 : decode cX9_writes 107 = .ok (.aload_n 0, 1) := by decide +kernel
theorem dX9_writes_108 : decode cX9_writes 108 = .ok (.dup, 1) := by decide +kernel
theorem dX9_writes_109 : decode cX9_writes 109 = .ok (.getfield 73, 3) := by decide +kernel
theorem dX9_writes_112 : decode cX9_writes 112 = .ok (.iconst 1, 1) := by decide +kernel
theorem dX9_writes_113 : decode cX9_writes 113 = .ok (.iadd, 1) := by decide +kernel
theorem dX9_writes_114 : decode cX9_writes 114 = .ok (.putfield 73, 3) := by decide +kernel
theorem dX9_writes_117 : decode cX9_writes 117 = .ok (.aload_n 0, 1) := by decide +kernel
theorem dX9_writes_118 : decode cX9_writes 118 = .ok (.aload_n 0, 1) := by decide +kernel
theorem dX9_writes_119 : decode cX9_writes 119 = .ok (.getfield 64, 3) := by decide +kernel
theorem dX9_writes_122 : decode cX9_writes 122 = .ok (.ldc2_w 82, 3) := by decide +kernel
theorem dX9_writes_125 : decode cX9_writes 125 = .ok (.lrem, 1) := by decide +kernel
theorem dX9_writes_126 : decode cX9_writes 126 = .ok (.ldc2_w 84, 3) := by decide +kernel
theorem dX9_writes_129 : decode cX9_writes 129 = .ok (.lmul, 1) := by decide +kernel
theorem dX9_writes_130 : decode cX9_writes 130 = .ok (.putfield 64, 3) := by decide +kernel
theorem dX9_writes_133 : decode cX9_writes 133 = .ok (.aload_n 0, 1) := by decide +kernel
theorem dX9_writes_134 : decode cX9_writes 134 = .ok (.dup, 1) := by decide +kernel
theorem dX9_writes_135 : decode cX9_writes 135 = .ok (.getfield 70, 3) := by decide +kernel
theorem dX9_writes_138 : decode cX9_writes 138 = .ok (.ldc2_w 84, 3) := by decide +kernel
theorem dX9_writes_141 : decode cX9_writes 141 = .ok (.lmul, 1) := by decide +kernel
theorem dX9_writes_142 : decode cX9_writes 142 = .ok (.putfield 70, 3) := by decide +kernel
theorem dX9_writes_145 : decode cX9_writes 145 = .ok (.goto (-67), 3) := by decide +kernel
theorem dX9_writes_148 : decode cX9_writes 148 = .ok (.return_, 1) := by decide +kernel
theorem dX9_finishes_0 : decode cX9_finishes 0 = .ok (.ldc2_w 68, 3) := by decide +kernel
theorem dX9_finishes_3 : decode cX9_finishes 3 = .ok (.lstore_n 1, 1) := by decide +kernel
theorem dX9_finishes_4 : decode cX9_finishes 4 = .ok (.iconst 4, 1) := by decide +kernel
theorem dX9_finishes_5 : decode cX9_finishes 5 = .ok (.istore_n 3, 1) := by decide +kernel
theorem dX9_finishes_6 : decode cX9_finishes 6 = .ok (.aload_n 0, 1) := by decide +kernel
theorem dX9_finishes_7 : decode cX9_finishes 7 = .ok (.getfield 64, 3) := by decide +kernel
theorem dX9_finishes_10 : decode cX9_finishes 10 = .ok (.lload_n 1, 1) := by decide +kernel
theorem dX9_finishes_11 : decode cX9_finishes 11 = .ok (.ladd, 1) := by decide +kernel
theorem dX9_finishes_12 : decode cX9_finishes 12 = .ok (.lconst 1, 1) := by decide +kernel
theorem dX9_finishes_13 : decode cX9_finishes 13 = .ok (.lsub, 1) := by decide +kernel
theorem dX9_finishes_14 : decode cX9_finishes 14 = .ok (.lload_n 1, 1) := by decide +kernel
theorem dX9_finishes_15 : decode cX9_finishes 15 = .ok (.ldiv, 1) := by decide +kernel
theorem dX9_finishes_16 : decode cX9_finishes 16 = .ok (.lload_n 1, 1) := by decide +kernel
theorem dX9_finishes_17 : decode cX9_finishes 17 = .ok (.lmul, 1) := by decide +kernel
theorem dX9_finishes_18 : decode cX9_finishes 18 = .ok (.lstore 4, 2) := by decide +kernel
theorem dX9_finishes_20 : decode cX9_finishes 20 = .ok (.lload 4, 2) := by decide +kernel
theorem dX9_finishes_22 : decode cX9_finishes 22 = .ok (.aload_n 0, 1) := by decide +kernel
theorem dX9_finishes_23 : decode cX9_finishes 23 = .ok (.getfield 64, 3) := by decide +kernel
theorem dX9_finishes_26 : decode cX9_finishes 26 = .ok (.aload_n 0, 1) := by decide +kernel
theorem dX9_finishes_27 : decode cX9_finishes 27 = .ok (.getfield 70, 3) := by decide +kernel
theorem dX9_finishes_30 : decode cX9_finishes 30 = .ok (.ladd, 1) := by decide +kernel
theorem dX9_finishes_31 : decode cX9_finishes 31 = .ok (.lcmp, 1) := by decide +kernel
theorem dX9_finishes_32 : decode cX9_finishes 32 = .ok (.ifCond .lt 29, 3) := by decide +kernel
theorem dX9_finishes_35 : decode cX9_finishes 35 = .ok (.lload_n 1, 1) := by decide +kernel
theorem dX9_finishes_36 : decode cX9_finishes 36 = .ok (.ldc2_w 84, 3) := by decide +kernel
theorem dX9_finishes_39 : decode cX9_finishes 39 = .ok (.ldiv, 1) := by decide +kernel
theorem dX9_finishes_40 : decode cX9_finishes 40 = .ok (.lstore_n 1, 1) := by decide +kernel
theorem dX9_finishes_41 : decode cX9_finishes 41 = .ok (.iinc 3 (-1), 3) := by decide +kernel
theorem dX9_finishes_44 : decode cX9_finishes 44 = .ok (.aload_n 0, 1) := by decide +kernel
theorem dX9_finishes_45 : decode cX9_finishes 45 = .ok (.getfield 64, 3) := by decide +kernel
theorem dX9_finishes_48 : decode cX9_finishes 48 = .ok (.lload_n 1, 1) := by decide +kernel
theorem dX9_finishes_49 : decode cX9_finishes 49 = .ok (.ladd, 1) := by decide +kernel
theorem dX9_finishes_50 : decode cX9_finishes 50 = .ok (.lconst 1, 1) := by decide +kernel
theorem dX9_finishes_51 : decode cX9_finishes 51 = .ok (.lsub, 1) := by decide +kernel
theorem dX9_finishes_52 : decode cX9_finishes 52 = .ok (.lload_n 1, 1) := by decide +kernel
theorem dX9_finishes_53 : decode cX9_finishes 53 = .ok (.ldiv, 1) := by decide +kernel
theorem dX9_finishes_54 : decode cX9_finishes 54 = .ok (.lload_n 1, 1) := by decide +kernel
theorem dX9_finishes_55 : decode cX9_finishes 55 = .ok (.lmul, 1) := by decide +kernel
theorem dX9_finishes_56 : decode cX9_finishes 56 = .ok (.lstore 4, 2) := by decide +kernel
theorem dX9_finishes_58 : decode cX9_finishes 58 = .ok (.goto (-38), 3) := by decide +kernel
theorem dX9_finishes_61 : decode cX9_finishes 61 = .ok (.lload 4, 2) := by decide +kernel
theorem dX9_finishes_63 : decode cX9_finishes 63 = .ok (.ldc2_w 68, 3) := by decide +kernel
theorem dX9_finishes_66 : decode cX9_finishes 66 = .ok (.lcmp, 1) := by decide +kernel
theorem dX9_finishes_67 : decode cX9_finishes 67 = .ok (.ifCond .ne 10, 3) := by decide +kernel
theorem dX9_finishes_70 : decode cX9_finishes 70 = .ok (.aload_n 0, 1) := by decide +kernel
theorem dX9_finishes_71 : decode cX9_finishes 71 = .ok (.invokevirtual 79, 3) := by decide +kernel
theorem dX9_finishes_74 : decode cX9_finishes 74 = .ok (.lconst 0, 1) := by decide +kernel
theorem dX9_finishes_75 : decode cX9_finishes 75 = .ok (.lstore 4, 2) := by decide +kernel
theorem dX9_finishes_77 : decode cX9_finishes 77 = .ok (.iconst 0, 1) := by decide +kernel
theorem dX9_finishes_78 : decode cX9_finishes 78 = .ok (.istore 6, 2) := by decide +kernel
theorem dX9_finishes_80 : decode cX9_finishes 80 = .ok (.iload 6, 2) := by decide +kernel
theorem dX9_finishes_82 : decode cX9_finishes 82 = .ok (.iconst 4, 1) := by decide +kernel
theorem dX9_finishes_83 : decode cX9_finishes 83 = .ok (.iload_n 3, 1) := by decide +kernel
theorem dX9_finishes_84 : decode cX9_finishes 84 = .ok (.isub, 1) := by decide +kernel
theorem dX9_finishes_85 : decode cX9_finishes 85 = .ok (.if_icmp .ge 44, 3) := by decide +kernel
theorem dX9_finishes_88 : decode cX9_finishes 88 = .ok (.aload_n 0, 1) := by decide +kernel
theorem dX9_finishes_89 : decode cX9_finishes 89 = .ok (.getfield 23, 3) := by decide +kernel
theorem dX9_finishes_92 : decode cX9_finishes 92 = .ok (.aload_n 0, 1) := by decide +kernel
theorem dX9_finishes_93 : decode cX9_finishes 93 = .ok (.getfield 73, 3) := by decide +kernel
theorem dX9_finishes_96 : decode cX9_finishes 96 = .ok (.lload 4, 2) := by decide +kernel
theorem dX9_finishes_98 : decode cX9_finishes 98 = .ok (.bipush 24, 2) := by decide +kernel
theorem dX9_finishes_100 : decode cX9_finishes 100 = .ok (.bipush 8, 2) := by decide +kernel
theorem dX9_finishes_102 : decode cX9_finishes 102 = .ok (.iload 6, 2) := by decide +kernel
theorem dX9_finishes_104 : decode cX9_finishes 104 = .ok (.imul, 1) := by decide +kernel
theorem dX9_finishes_105 : decode cX9_finishes 105 = .ok (.isub, 1) := by decide +kernel
theorem dX9_finishes_106 : decode cX9_finishes 106 = .ok (.lshr, 1) := by decide +kernel
theorem dX9_finishes_107 : decode cX9_finishes 107 = .ok (.ldc2_w 86, 3) := by decide +kernel
theorem dX9_finishes_110 : decode cX9_finishes 110 = .ok (.land, 1) := by decide +kernel
theorem dX9_finishes_111 : decode cX9_finishes 111 = .ok (.l2i, 1) := by decide +kernel
theorem dX9_finishes_112 : decode cX9_finishes 112 = .ok (.iastore, 1) := by decide +kernel
theorem dX9_finishes_113 : decode cX9_finishes 113 = .ok (.aload_n 0, 1) := by decide +kernel
theorem dX9_finishes_114 : decode cX9_finishes 114 = .ok (.dup, 1) := by decide +kernel
theorem dX9_finishes_115 : decode cX9_finishes 115 = .ok (.getfield 73, 3) := by decide +kernel
theorem dX9_finishes_118 : decode cX9_finishes 118 = .ok (.iconst 1, 1) := by decide +kernel
theorem dX9_finishes_119 : decode cX9_finishes 119 = .ok (.iadd, 1) := by decide +kernel
theorem dX9_finishes_120 : decode cX9_finishes 120 = .ok (.putfield 73, 3) := by decide +kernel
theorem dX9_finishes_123 : decode cX9_finishes 123 = .ok (.iinc 6 1, 3) := by decide +kernel
theorem dX9_finishes_126 : decode cX9_finishes 126 = .ok (.goto (-46), 3) := by decide +kernel
theorem dX9_finishes_129 : decode cX9_finishes 129 = .ok (.aload_n 0, 1) := by decide +kernel
theorem dX9_finishes_130 : decode cX9_finishes 130 = .ok (.getfield 73, 3) := by decide +kernel
theorem dX9_finishes_133 : decode cX9_finishes 133 = .ok (.ifCond .le 30, 3) := by decide +kernel
theorem dX9_finishes_136 : decode cX9_finishes 136 = .ok (.aload_n 0, 1) := by decide +kernel
theorem dX9_finishes_137 : decode cX9_finishes 137 = .ok (.getfield 23, 3) := by decide +kernel
theorem dX9_finishes_140 : decode cX9_finishes 140 = .ok (.aload_n 0, 1) := by decide +kernel
theorem dX9_finishes_141 : decode cX9_finishes 141 = .ok (.getfield 73, 3) := by decide +kernel
theorem dX9_finishes_144 : decode cX9_finishes 144 = .ok (.iconst 1, 1) := by decide +kernel
theorem dX9_finishes_145 : decode cX9_finishes 145 = .ok (.isub, 1) := by decide +kernel
theorem dX9_finishes_146 : decode cX9_finishes 146 = .ok (.iaload, 1) := by decide +kernel
theorem dX9_finishes_147 : decode cX9_finishes 147 = .ok (.ifCond .ne 16, 3) := by decide +kernel
theorem dX9_finishes_150 : decode cX9_finishes 150 = .ok (.aload_n 0, 1) := by decide +kernel
theorem dX9_finishes_151 : decode cX9_finishes 151 = .ok (.dup, 1) := by decide +kernel
theorem dX9_finishes_152 : decode cX9_finishes 152 = .ok (.getfield 73, 3) := by decide +kernel
theorem dX9_finishes_155 : decode cX9_finishes 155 = .ok (.iconst 1, 1) := by decide +kernel
theorem dX9_finishes_156 : decode cX9_finishes 156 = .ok (.isub, 1) := by decide +kernel
theorem dX9_finishes_157 : decode cX9_finishes 157 = .ok (.putfield 73, 3) := by decide +kernel
theorem dX9_finishes_160 : decode cX9_finishes 160 = .ok (.goto (-31), 3) := by decide +kernel
theorem dX9_finishes_163 : decode cX9_finishes 163 = .ok (.return_, 1) := by decide +kernel
theorem dX9_log_0 : decode cX9_log 0 = .ok (.iconst 0, 1) := by decide +kernel
theorem dX9_log_1 : decode cX9_log 1 = .ok (.istore_n 1, 1) := by decide +kernel
theorem dX9_log_2 : decode cX9_log 2 = .ok (.iload_n 0, 1) := by decide +kernel
theorem dX9_log_3 : decode cX9_log 3 = .ok (.iload_n 1, 1) := by decide +kernel
theorem dX9_log_4 : decode cX9_log 4 = .ok (.iconst 1, 1) := by decide +kernel
theorem dX9_log_5 : decode cX9_log 5 = .ok (.iadd, 1) := by decide +kernel
theorem dX9_log_6 : decode cX9_log 6 = .ok (.ishr, 1) := by decide +kernel
theorem dX9_log_7 : decode cX9_log 7 = .ok (.ifCond .le 9, 3) := by decide +kernel
theorem dX9_log_10 : decode cX9_log 10 = .ok (.iinc 1 1, 3) := by decide +kernel
theorem dX9_log_13 : decode cX9_log 13 = .ok (.goto (-11), 3) := by decide +kernel
theorem dX9_log_16 : decode cX9_log 16 = .ok (.iload_n 0, 1) := by decide +kernel
theorem dX9_log_17 : decode cX9_log 17 = .ok (.i2l, 1) := by decide +kernel
theorem dX9_log_18 : decode cX9_log 18 = .ok (.bipush 30, 2) := by decide +kernel
theorem dX9_log_20 : decode cX9_log 20 = .ok (.iload_n 1, 1) := by decide +kernel
theorem dX9_log_21 : decode cX9_log 21 = .ok (.isub, 1) := by decide +kernel
theorem dX9_log_22 : decode cX9_log 22 = .ok (.lshl, 1) := by decide +kernel
theorem dX9_log_23 : decode cX9_log 23 = .ok (.lstore_n 2, 1) := by decide +kernel
theorem dX9_log_24 : decode cX9_log 24 = .ok (.ldc 88, 2) := by decide +kernel
theorem dX9_log_26 : decode cX9_log 26 = .ok (.iload_n 1, 1) := by decide +kernel
theorem dX9_log_27 : decode cX9_log 27 = .ok (.imul, 1) := by decide +kernel
theorem dX9_log_28 : decode cX9_log 28 = .ok (.istore 4, 2) := by decide +kernel
theorem dX9_log_30 : decode cX9_log 30 = .ok (.bipush 15, 2) := by decide +kernel
theorem dX9_log_32 : decode cX9_log 32 = .ok (.istore 5, 2) := by decide +kernel
theorem dX9_log_34 : decode cX9_log 34 = .ok (.iload 5, 2) := by decide +kernel
theorem dX9_log_36 : decode cX9_log 36 = .ok (.ifCond .lt 39, 3) := by decide +kernel
theorem dX9_log_39 : decode cX9_log 39 = .ok (.lload_n 2, 1) := by decide +kernel
theorem dX9_log_40 : decode cX9_log 40 = .ok (.lload_n 2, 1) := by decide +kernel
theorem dX9_log_41 : decode cX9_log 41 = .ok (.lmul, 1) := by decide +kernel
theorem dX9_log_42 : decode cX9_log 42 = .ok (.bipush 30, 2) := by decide +kernel
theorem dX9_log_44 : decode cX9_log 44 = .ok (.lshr, 1) := by decide +kernel
theorem dX9_log_45 : decode cX9_log 45 = .ok (.lstore_n 2, 1) := by decide +kernel
theorem dX9_log_46 : decode cX9_log 46 = .ok (.lload_n 2, 1) := by decide +kernel
theorem dX9_log_47 : decode cX9_log 47 = .ok (.ldc2_w 89, 3) := by decide +kernel
theorem dX9_log_50 : decode cX9_log 50 = .ok (.lcmp, 1) := by decide +kernel
theorem dX9_log_51 : decode cX9_log 51 = .ok (.ifCond .lt 18, 3) := by decide +kernel
theorem dX9_log_54 : decode cX9_log 54 = .ok (.lload_n 2, 1) := by decide +kernel
theorem dX9_log_55 : decode cX9_log 55 = .ok (.ldc2_w 91, 3) := by decide +kernel
theorem dX9_log_58 : decode cX9_log 58 = .ok (.ldiv, 1) := by decide +kernel
theorem dX9_log_59 : decode cX9_log 59 = .ok (.lstore_n 2, 1) := by decide +kernel
theorem dX9_log_60 : decode cX9_log 60 = .ok (.iload 4, 2) := by decide +kernel
theorem dX9_log_62 : decode cX9_log 62 = .ok (.iconst 1, 1) := by decide +kernel
theorem dX9_log_63 : decode cX9_log 63 = .ok (.iload 5, 2) := by decide +kernel
theorem dX9_log_65 : decode cX9_log 65 = .ok (.ishl, 1) := by decide +kernel
theorem dX9_log_66 : decode cX9_log 66 = .ok (.iadd, 1) := by decide +kernel
theorem dX9_log_67 : decode cX9_log 67 = .ok (.istore 4, 2) := by decide +kernel
theorem dX9_log_69 : decode cX9_log 69 = .ok (.iinc 5 (-1), 3) := by decide +kernel
theorem dX9_log_72 : decode cX9_log 72 = .ok (.goto (-38), 3) := by decide +kernel
theorem dX9_log_75 : decode cX9_log 75 = .ok (.iload 4, 2) := by decide +kernel
theorem dX9_log_77 : decode cX9_log 77 = .ok (.ireturn, 1) := by decide +kernel
theorem dX9_interval_0 : decode cX9_interval 0 = .ok (.aload_n 0, 1) := by decide +kernel
theorem dX9_interval_1 : decode cX9_interval 1 = .ok (.dup, 1) := by decide +kernel
theorem dX9_interval_2 : decode cX9_interval 2 = .ok (.getfield 93, 3) := by decide +kernel
theorem dX9_interval_5 : decode cX9_interval 5 = .ok (.iload_n 3, 1) := by decide +kernel
theorem dX9_interval_6 : decode cX9_interval 6 = .ok (.invokestatic 96, 3) := by decide +kernel
theorem dX9_interval_9 : decode cX9_interval 9 = .ok (.iload_n 2, 1) := by decide +kernel
theorem dX9_interval_10 : decode cX9_interval 10 = .ok (.iload_n 1, 1) := by decide +kernel
theorem dX9_interval_11 : decode cX9_interval 11 = .ok (.isub, 1) := by decide +kernel
theorem dX9_interval_12 : decode cX9_interval 12 = .ok (.invokestatic 96, 3) := by decide +kernel
theorem dX9_interval_15 : decode cX9_interval 15 = .ok (.isub, 1) := by decide +kernel
theorem dX9_interval_16 : decode cX9_interval 16 = .ok (.iadd, 1) := by decide +kernel
theorem dX9_interval_17 : decode cX9_interval 17 = .ok (.putfield 93, 3) := by decide +kernel
theorem dX9_interval_20 : decode cX9_interval 20 = .ok (.aload_n 0, 1) := by decide +kernel
theorem dX9_interval_21 : decode cX9_interval 21 = .ok (.getfield 99, 3) := by decide +kernel
theorem dX9_interval_24 : decode cX9_interval 24 = .ok (.ifCond .eq 13, 3) := by decide +kernel
theorem dX9_interval_27 : decode cX9_interval 27 = .ok (.aload_n 0, 1) := by decide +kernel
theorem dX9_interval_28 : decode cX9_interval 28 = .ok (.iload_n 1, 1) := by decide +kernel
theorem dX9_interval_29 : decode cX9_interval 29 = .ok (.i2l, 1) := by decide +kernel
theorem dX9_interval_30 : decode cX9_interval 30 = .ok (.iload_n 2, 1) := by decide +kernel
theorem dX9_interval_31 : decode cX9_interval 31 = .ok (.i2l, 1) := by decide +kernel
theorem dX9_interval_32 : decode cX9_interval 32 = .ok (.iload_n 3, 1) := by decide +kernel
theorem dX9_interval_33 : decode cX9_interval 33 = .ok (.i2l, 1) := by decide +kernel
theorem dX9_interval_34 : decode cX9_interval 34 = .ok (.invokevirtual 103, 3) := by decide +kernel
theorem dX9_interval_37 : decode cX9_interval 37 = .ok (.return_, 1) := by decide +kernel
theorem dX9_below_0 : decode cX9_below 0 = .ok (.iconst 0, 1) := by decide +kernel
theorem dX9_below_1 : decode cX9_below 1 = .ok (.istore_n 3, 1) := by decide +kernel
theorem dX9_below_2 : decode cX9_below 2 = .ok (.iconst 0, 1) := by decide +kernel
theorem dX9_below_3 : decode cX9_below 3 = .ok (.istore 4, 2) := by decide +kernel
theorem dX9_below_5 : decode cX9_below 5 = .ok (.iload 4, 2) := by decide +kernel
theorem dX9_below_7 : decode cX9_below 7 = .ok (.iload_n 2, 1) := by decide +kernel
theorem dX9_below_8 : decode cX9_below 8 = .ok (.if_icmp .ge 33, 3) := by decide +kernel
theorem dX9_below_11 : decode cX9_below 11 = .ok (.iload_n 3, 1) := by decide +kernel
theorem dX9_below_12 : decode cX9_below 12 = .ok (.aload_n 0, 1) := by decide +kernel
theorem dX9_below_13 : decode cX9_below 13 = .ok (.getfield 26, 3) := by decide +kernel
theorem dX9_below_16 : decode cX9_below 16 = .ok (.iload 4, 2) := by decide +kernel
theorem dX9_below_18 : decode cX9_below 18 = .ok (.baload, 1) := by decide +kernel
theorem dX9_below_19 : decode cX9_below 19 = .ok (.ifCond .eq 7, 3) := by decide +kernel
theorem dX9_below_22 : decode cX9_below 22 = .ok (.iconst 0, 1) := by decide +kernel
theorem dX9_below_23 : decode cX9_below 23 = .ok (.goto 10, 3) := by decide +kernel
theorem dX9_below_26 : decode cX9_below 26 = .ok (.aload_n 0, 1) := by decide +kernel
theorem dX9_below_27 : decode cX9_below 27 = .ok (.iload_n 1, 1) := by decide +kernel
theorem dX9_below_28 : decode cX9_below 28 = .ok (.iload 4, 2) := by decide +kernel
theorem dX9_below_30 : decode cX9_below 30 = .ok (.invokevirtual 49, 3) := by decide +kernel
theorem dX9_below_33 : decode cX9_below 33 = .ok (.iadd, 1) := by decide +kernel
theorem dX9_below_34 : decode cX9_below 34 = .ok (.istore_n 3, 1) := by decide +kernel
theorem dX9_below_35 : decode cX9_below 35 = .ok (.iinc 4 1, 3) := by decide +kernel
theorem dX9_below_38 : decode cX9_below 38 = .ok (.goto (-33), 3) := by decide +kernel
theorem dX9_below_41 : decode cX9_below 41 = .ok (.iload_n 3, 1) := by decide +kernel
theorem dX9_below_42 : decode cX9_below 42 = .ok (.ireturn, 1) := by decide +kernel
theorem dX9_known_0 : decode cX9_known 0 = .ok (.iconst 0, 1) := by decide +kernel
theorem dX9_known_1 : decode cX9_known 1 = .ok (.istore_n 2, 1) := by decide +kernel
theorem dX9_known_2 : decode cX9_known 2 = .ok (.iconst 0, 1) := by decide +kernel
theorem dX9_known_3 : decode cX9_known 3 = .ok (.istore_n 3, 1) := by decide +kernel
theorem dX9_known_4 : decode cX9_known 4 = .ok (.iload_n 3, 1) := by decide +kernel
theorem dX9_known_5 : decode cX9_known 5 = .ok (.bipush 96, 2) := by decide +kernel
theorem dX9_known_7 : decode cX9_known 7 = .ok (.if_icmp .ge 26, 3) := by decide +kernel
theorem dX9_known_10 : decode cX9_known 10 = .ok (.iload_n 2, 1) := by decide +kernel
theorem dX9_known_11 : decode cX9_known 11 = .ok (.aload_n 0, 1) := by decide +kernel
theorem dX9_known_12 : decode cX9_known 12 = .ok (.iload_n 1, 1) := by decide +kernel
theorem dX9_known_13 : decode cX9_known 13 = .ok (.iload_n 3, 1) := by decide +kernel
theorem dX9_known_14 : decode cX9_known 14 = .ok (.invokevirtual 49, 3) := by decide +kernel
theorem dX9_known_17 : decode cX9_known 17 = .ok (.ifCond .le 7, 3) := by decide +kernel
theorem dX9_known_20 : decode cX9_known 20 = .ok (.iconst 1, 1) := by decide +kernel
theorem dX9_known_21 : decode cX9_known 21 = .ok (.goto 4, 3) := by decide +kernel
theorem dX9_known_24 : decode cX9_known 24 = .ok (.iconst 0, 1) := by decide +kernel
theorem dX9_known_25 : decode cX9_known 25 = .ok (.iadd, 1) := by decide +kernel
theorem dX9_known_26 : decode cX9_known 26 = .ok (.istore_n 2, 1) := by decide +kernel
theorem dX9_known_27 : decode cX9_known 27 = .ok (.iinc 3 1, 3) := by decide +kernel
theorem dX9_known_30 : decode cX9_known 30 = .ok (.goto (-26), 3) := by decide +kernel
theorem dX9_known_33 : decode cX9_known 33 = .ok (.iload_n 2, 1) := by decide +kernel
theorem dX9_known_34 : decode cX9_known 34 = .ok (.ireturn, 1) := by decide +kernel
theorem dX9_excludes_0 : decode cX9_excludes 0 = .ok (.iconst 0, 1) := by decide +kernel
theorem dX9_excludes_1 : decode cX9_excludes 1 = .ok (.istore_n 2, 1) := by decide +kernel
theorem dX9_excludes_2 : decode cX9_excludes 2 = .ok (.iload_n 2, 1) := by decide +kernel
theorem dX9_excludes_3 : decode cX9_excludes 3 = .ok (.bipush 96, 2) := by decide +kernel
theorem dX9_excludes_5 : decode cX9_excludes 5 = .ok (.if_icmp .ge 48, 3) := by decide +kernel
theorem dX9_excludes_8 : decode cX9_excludes 8 = .ok (.aload_n 0, 1) := by decide +kernel
theorem dX9_excludes_9 : decode cX9_excludes 9 = .ok (.getfield 26, 3) := by decide +kernel
theorem dX9_excludes_12 : decode cX9_excludes 12 = .ok (.iload_n 2, 1) := by decide +kernel
theorem dX9_excludes_13 : decode cX9_excludes 13 = .ok (.aload_n 0, 1) := by decide +kernel
theorem dX9_excludes_14 : decode cX9_excludes 14 = .ok (.getfield 26, 3) := by decide +kernel
theorem dX9_excludes_17 : decode cX9_excludes 17 = .ok (.iload_n 2, 1) := by decide +kernel
theorem dX9_excludes_18 : decode cX9_excludes 18 = .ok (.baload, 1) := by decide +kernel
theorem dX9_excludes_19 : decode cX9_excludes 19 = .ok (.ifCond .ne 22, 3) := by decide +kernel
theorem dX9_excludes_22 : decode cX9_excludes 22 = .ok (.aload_n 0, 1) := by decide +kernel
theorem dX9_excludes_23 : decode cX9_excludes 23 = .ok (.getfield 7, 3) := by decide +kernel
theorem dX9_excludes_26 : decode cX9_excludes 26 = .ok (.iconst 1, 1) := by decide +kernel
theorem dX9_excludes_27 : decode cX9_excludes 27 = .ok (.iaload, 1) := by decide +kernel
theorem dX9_excludes_28 : decode cX9_excludes 28 = .ok (.iconst 1, 1) := by decide +kernel
theorem dX9_excludes_29 : decode cX9_excludes 29 = .ok (.if_icmp .ne 16, 3) := by decide +kernel
theorem dX9_excludes_32 : decode cX9_excludes 32 = .ok (.aload_n 0, 1) := by decide +kernel
theorem dX9_excludes_33 : decode cX9_excludes 33 = .ok (.iload_n 1, 1) := by decide +kernel
theorem dX9_excludes_34 : decode cX9_excludes 34 = .ok (.iload_n 2, 1) := by decide +kernel
theorem dX9_excludes_35 : decode cX9_excludes 35 = .ok (.invokevirtual 49, 3) := by decide +kernel
theorem dX9_excludes_38 : decode cX9_excludes 38 = .ok (.ifCond .le 7, 3) := by decide +kernel
theorem dX9_excludes_41 : decode cX9_excludes 41 = .ok (.iconst 1, 1) := by decide +kernel
theorem dX9_excludes_42 : decode cX9_excludes 42 = .ok (.goto 4, 3) := by decide +kernel
theorem dX9_excludes_45 : decode cX9_excludes 45 = .ok (.iconst 0, 1) := by decide +kernel
theorem dX9_excludes_46 : decode cX9_excludes 46 = .ok (.bastore, 1) := by decide +kernel
theorem dX9_excludes_47 : decode cX9_excludes 47 = .ok (.iinc 2 1, 3) := by decide +kernel
theorem dX9_excludes_50 : decode cX9_excludes 50 = .ok (.goto (-48), 3) := by decide +kernel
theorem dX9_excludes_53 : decode cX9_excludes 53 = .ok (.return_, 1) := by decide +kernel
theorem dX9_clears_0 : decode cX9_clears 0 = .ok (.aload_n 0, 1) := by decide +kernel
theorem dX9_clears_1 : decode cX9_clears 1 = .ok (.iconst 0, 1) := by decide +kernel
theorem dX9_clears_2 : decode cX9_clears 2 = .ok (.putfield 93, 3) := by decide +kernel
theorem dX9_clears_5 : decode cX9_clears 5 = .ok (.aload_n 0, 1) := by decide +kernel
theorem dX9_clears_6 : decode cX9_clears 6 = .ok (.iconst 0, 1) := by decide +kernel
theorem dX9_clears_7 : decode cX9_clears 7 = .ok (.putfield 107, 3) := by decide +kernel
theorem dX9_clears_10 : decode cX9_clears 10 = .ok (.aload_n 0, 1) := by decide +kernel
theorem dX9_clears_11 : decode cX9_clears 11 = .ok (.iconst (-1), 1) := by decide +kernel
theorem dX9_clears_12 : decode cX9_clears 12 = .ok (.putfield 110, 3) := by decide +kernel
theorem dX9_clears_15 : decode cX9_clears 15 = .ok (.iconst 0, 1) := by decide +kernel
theorem dX9_clears_16 : decode cX9_clears 16 = .ok (.istore_n 1, 1) := by decide +kernel
theorem dX9_clears_17 : decode cX9_clears 17 = .ok (.iload_n 1, 1) := by decide +kernel
theorem dX9_clears_18 : decode cX9_clears 18 = .ok (.bipush 96, 2) := by decide +kernel
theorem dX9_clears_20 : decode cX9_clears 20 = .ok (.if_icmp .ge 16, 3) := by decide +kernel
theorem dX9_clears_23 : decode cX9_clears 23 = .ok (.aload_n 0, 1) := by decide +kernel
theorem dX9_clears_24 : decode cX9_clears 24 = .ok (.getfield 26, 3) := by decide +kernel
theorem dX9_clears_27 : decode cX9_clears 27 = .ok (.iload_n 1, 1) := by decide +kernel
theorem dX9_clears_28 : decode cX9_clears 28 = .ok (.iconst 0, 1) := by decide +kernel
theorem dX9_clears_29 : decode cX9_clears 29 = .ok (.bastore, 1) := by decide +kernel
theorem dX9_clears_30 : decode cX9_clears 30 = .ok (.iinc 1 1, 3) := by decide +kernel
theorem dX9_clears_33 : decode cX9_clears 33 = .ok (.goto (-16), 3) := by decide +kernel
theorem dX9_clears_36 : decode cX9_clears 36 = .ok (.return_, 1) := by decide +kernel
theorem dX9_codes_0 : decode cX9_codes 0 = .ok (.aload_n 0, 1) := by decide +kernel
theorem dX9_codes_1 : decode cX9_codes 1 = .ok (.invokevirtual 113, 3) := by decide +kernel
theorem dX9_codes_4 : decode cX9_codes 4 = .ok (.iload_n 2, 1) := by decide +kernel
theorem dX9_codes_5 : decode cX9_codes 5 = .ok (.aload_n 0, 1) := by decide +kernel
theorem dX9_codes_6 : decode cX9_codes 6 = .ok (.getfield 7, 3) := by decide +kernel
theorem dX9_codes_9 : decode cX9_codes 9 = .ok (.iconst 0, 1) := by decide +kernel
theorem dX9_codes_10 : decode cX9_codes 10 = .ok (.iaload, 1) := by decide +kernel
theorem dX9_codes_11 : decode cX9_codes 11 = .ok (.if_icmp .ge 7, 3) := by decide +kernel
theorem dX9_codes_14 : decode cX9_codes 14 = .ok (.iload_n 2, 1) := by decide +kernel
theorem dX9_codes_15 : decode cX9_codes 15 = .ok (.goto 9, 3) := by decide +kernel
theorem dX9_codes_18 : decode cX9_codes 18 = .ok (.aload_n 0, 1) := by decide +kernel
theorem dX9_codes_19 : decode cX9_codes 19 = .ok (.getfield 7, 3) := by decide +kernel
theorem dX9_codes_22 : decode cX9_codes 22 = .ok (.iconst 0, 1) := by decide +kernel
theorem dX9_codes_23 : decode cX9_codes 23 = .ok (.iaload, 1) := by decide +kernel
theorem dX9_codes_24 : decode cX9_codes 24 = .ok (.istore 4, 2) := by decide +kernel
theorem dX9_codes_26 : decode cX9_codes 26 = .ok (.iload 4, 2) := by decide +kernel
theorem dX9_codes_28 : decode cX9_codes 28 = .ok (.ifCond .lt 130, 3) := by decide +kernel
theorem dX9_codes_31 : decode cX9_codes 31 = .ok (.aload_n 0, 1) := by decide +kernel
theorem dX9_codes_32 : decode cX9_codes 32 = .ok (.aload_n 1, 1) := by decide +kernel
theorem dX9_codes_33 : decode cX9_codes 33 = .ok (.iload_n 2, 1) := by decide +kernel
theorem dX9_codes_34 : decode cX9_codes 34 = .ok (.iload 4, 2) := by decide +kernel
theorem dX9_codes_36 : decode cX9_codes 36 = .ok (.invokevirtual 57, 3) := by decide +kernel
theorem dX9_codes_39 : decode cX9_codes 39 = .ok (.istore 5, 2) := by decide +kernel
theorem dX9_codes_41 : decode cX9_codes 41 = .ok (.iload 5, 2) := by decide +kernel
theorem dX9_codes_43 : decode cX9_codes 43 = .ok (.ifCond .lt 109, 3) := by decide +kernel
theorem dX9_codes_46 : decode cX9_codes 46 = .ok (.aload_n 0, 1) := by decide +kernel
theorem dX9_codes_47 : decode cX9_codes 47 = .ok (.iload 5, 2) := by decide +kernel
theorem dX9_codes_49 : decode cX9_codes 49 = .ok (.bipush 96, 2) := by decide +kernel
theorem dX9_codes_51 : decode cX9_codes 51 = .ok (.invokevirtual 116, 3) := by decide +kernel
theorem dX9_codes_54 : decode cX9_codes 54 = .ok (.istore 6, 2) := by decide +kernel
theorem dX9_codes_56 : decode cX9_codes 56 = .ok (.aload_n 0, 1) := by decide +kernel
theorem dX9_codes_57 : decode cX9_codes 57 = .ok (.iload 5, 2) := by decide +kernel
theorem dX9_codes_59 : decode cX9_codes 59 = .ok (.invokevirtual 119, 3) := by decide +kernel
theorem dX9_codes_62 : decode cX9_codes 62 = .ok (.istore 7, 2) := by decide +kernel
theorem dX9_codes_64 : decode cX9_codes 64 = .ok (.aload_n 0, 1) := by decide +kernel
theorem dX9_codes_65 : decode cX9_codes 65 = .ok (.getfield 26, 3) := by decide +kernel
theorem dX9_codes_68 : decode cX9_codes 68 = .ok (.iload_n 3, 1) := by decide +kernel
theorem dX9_codes_69 : decode cX9_codes 69 = .ok (.baload, 1) := by decide +kernel
theorem dX9_codes_70 : decode cX9_codes 70 = .ok (.ifCond .ne 50, 3) := by decide +kernel
theorem dX9_codes_73 : decode cX9_codes 73 = .ok (.aload_n 0, 1) := by decide +kernel
theorem dX9_codes_74 : decode cX9_codes 74 = .ok (.iload 5, 2) := by decide +kernel
theorem dX9_codes_76 : decode cX9_codes 76 = .ok (.iload_n 3, 1) := by decide +kernel
theorem dX9_codes_77 : decode cX9_codes 77 = .ok (.invokevirtual 49, 3) := by decide +kernel
theorem dX9_codes_80 : decode cX9_codes 80 = .ok (.ifCond .le 40, 3) := by decide +kernel
theorem dX9_codes_83 : decode cX9_codes 83 = .ok (.aload_n 0, 1) := by decide +kernel
theorem dX9_codes_84 : decode cX9_codes 84 = .ok (.iload 5, 2) := by decide +kernel
theorem dX9_codes_86 : decode cX9_codes 86 = .ok (.iload_n 3, 1) := by decide +kernel
theorem dX9_codes_87 : decode cX9_codes 87 = .ok (.invokevirtual 116, 3) := by decide +kernel
theorem dX9_codes_90 : decode cX9_codes 90 = .ok (.istore 8, 2) := by decide +kernel
theorem dX9_codes_92 : decode cX9_codes 92 = .ok (.aload_n 0, 1) := by decide +kernel
theorem dX9_codes_93 : decode cX9_codes 93 = .ok (.iload 8, 2) := by decide +kernel
theorem dX9_codes_95 : decode cX9_codes 95 = .ok (.iload 8, 2) := by decide +kernel
theorem dX9_codes_97 : decode cX9_codes 97 = .ok (.aload_n 0, 1) := by decide +kernel
theorem dX9_codes_98 : decode cX9_codes 98 = .ok (.iload 5, 2) := by decide +kernel
theorem dX9_codes_100 : decode cX9_codes 100 = .ok (.iload_n 3, 1) := by decide +kernel
theorem dX9_codes_101 : decode cX9_codes 101 = .ok (.invokevirtual 49, 3) := by decide +kernel
theorem dX9_codes_104 : decode cX9_codes 104 = .ok (.iadd, 1) := by decide +kernel
theorem dX9_codes_105 : decode cX9_codes 105 = .ok (.iload 6, 2) := by decide +kernel
theorem dX9_codes_107 : decode cX9_codes 107 = .ok (.iload 7, 2) := by decide +kernel
theorem dX9_codes_109 : decode cX9_codes 109 = .ok (.iadd, 1) := by decide +kernel
theorem dX9_codes_110 : decode cX9_codes 110 = .ok (.invokevirtual 122, 3) := by decide +kernel
theorem dX9_codes_113 : decode cX9_codes 113 = .ok (.aload_n 0, 1) := by decide +kernel
theorem dX9_codes_114 : decode cX9_codes 114 = .ok (.iload 4, 2) := by decide +kernel
theorem dX9_codes_116 : decode cX9_codes 116 = .ok (.putfield 110, 3) := by decide +kernel
theorem dX9_codes_119 : decode cX9_codes 119 = .ok (.return_, 1) := by decide +kernel
theorem dX9_codes_120 : decode cX9_codes 120 = .ok (.aload_n 0, 1) := by decide +kernel
theorem dX9_codes_121 : decode cX9_codes 121 = .ok (.iload 6, 2) := by decide +kernel
theorem dX9_codes_123 : decode cX9_codes 123 = .ok (.iload 6, 2) := by decide +kernel
theorem dX9_codes_125 : decode cX9_codes 125 = .ok (.iload 7, 2) := by decide +kernel
theorem dX9_codes_127 : decode cX9_codes 127 = .ok (.iadd, 1) := by decide +kernel
theorem dX9_codes_128 : decode cX9_codes 128 = .ok (.iload 6, 2) := by decide +kernel
theorem dX9_codes_130 : decode cX9_codes 130 = .ok (.iload 7, 2) := by decide +kernel
theorem dX9_codes_132 : decode cX9_codes 132 = .ok (.iadd, 1) := by decide +kernel
theorem dX9_codes_133 : decode cX9_codes 133 = .ok (.invokevirtual 122, 3) := by decide +kernel
theorem dX9_codes_136 : decode cX9_codes 136 = .ok (.aload_n 0, 1) := by decide +kernel
theorem dX9_codes_137 : decode cX9_codes 137 = .ok (.dup, 1) := by decide +kernel
theorem dX9_codes_138 : decode cX9_codes 138 = .ok (.getfield 107, 3) := by decide +kernel
theorem dX9_codes_141 : decode cX9_codes 141 = .ok (.iconst 1, 1) := by decide +kernel
theorem dX9_codes_142 : decode cX9_codes 142 = .ok (.iadd, 1) := by decide +kernel
theorem dX9_codes_143 : decode cX9_codes 143 = .ok (.putfield 107, 3) := by decide +kernel
theorem dX9_codes_146 : decode cX9_codes 146 = .ok (.aload_n 0, 1) := by decide +kernel
theorem dX9_codes_147 : decode cX9_codes 147 = .ok (.iload 5, 2) := by decide +kernel
theorem dX9_codes_149 : decode cX9_codes 149 = .ok (.invokevirtual 126, 3) := by decide +kernel
theorem dX9_codes_152 : decode cX9_codes 152 = .ok (.iinc 4 (-1), 3) := by decide +kernel
theorem dX9_codes_155 : decode cX9_codes 155 = .ok (.goto (-129), 3) := by decide +kernel
theorem dX9_codes_158 : decode cX9_codes 158 = .ok (.iconst 0, 1) := by decide +kernel
theorem dX9_codes_159 : decode cX9_codes 159 = .ok (.istore 4, 2) := by decide +kernel
theorem dX9_codes_161 : decode cX9_codes 161 = .ok (.iconst 0, 1) := by decide +kernel
theorem dX9_codes_162 : decode cX9_codes 162 = .ok (.istore 5, 2) := by decide +kernel
theorem dX9_codes_164 : decode cX9_codes 164 = .ok (.iconst 0, 1) := by decide +kernel
theorem dX9_codes_165 : decode cX9_codes 165 = .ok (.istore 6, 2) := by decide +kernel
theorem dX9_codes_167 : decode cX9_codes 167 = .ok (.iload 6, 2) := by decide +kernel
theorem dX9_codes_169 : decode cX9_codes 169 = .ok (.bipush 96, 2) := by decide +kernel
theorem dX9_codes_171 : decode cX9_codes 171 = .ok (.if_icmp .ge 55, 3) := by decide +kernel
theorem dX9_codes_174 : decode cX9_codes 174 = .ok (.iload 4, 2) := by decide +kernel
theorem dX9_codes_176 : decode cX9_codes 176 = .ok (.aload_n 0, 1) := by decide +kernel
theorem dX9_codes_177 : decode cX9_codes 177 = .ok (.getfield 26, 3) := by decide +kernel
theorem dX9_codes_180 : decode cX9_codes 180 = .ok (.iload 6, 2) := by decide +kernel
theorem dX9_codes_182 : decode cX9_codes 182 = .ok (.baload, 1) := by decide +kernel
theorem dX9_codes_183 : decode cX9_codes 183 = .ok (.ifCond .ne 13, 3) := by decide +kernel
theorem dX9_codes_186 : decode cX9_codes 186 = .ok (.iload 6, 2) := by decide +kernel
theorem dX9_codes_188 : decode cX9_codes 188 = .ok (.iload_n 3, 1) := by decide +kernel
theorem dX9_codes_189 : decode cX9_codes 189 = .ok (.if_icmp .ge 7, 3) := by decide +kernel
theorem dX9_codes_192 : decode cX9_codes 192 = .ok (.iconst 1, 1) := by decide +kernel
theorem dX9_codes_193 : decode cX9_codes 193 = .ok (.goto 4, 3) := by decide +kernel
theorem dX9_codes_196 : decode cX9_codes 196 = .ok (.iconst 0, 1) := by decide +kernel
theorem dX9_codes_197 : decode cX9_codes 197 = .ok (.iadd, 1) := by decide +kernel
theorem dX9_codes_198 : decode cX9_codes 198 = .ok (.istore 4, 2) := by decide +kernel
theorem dX9_codes_200 : decode cX9_codes 200 = .ok (.iload 5, 2) := by decide +kernel
theorem dX9_codes_202 : decode cX9_codes 202 = .ok (.aload_n 0, 1) := by decide +kernel
theorem dX9_codes_203 : decode cX9_codes 203 = .ok (.getfield 26, 3) := by decide +kernel
theorem dX9_codes_206 : decode cX9_codes 206 = .ok (.iload 6, 2) := by decide +kernel
theorem dX9_codes_208 : decode cX9_codes 208 = .ok (.baload, 1) := by decide +kernel
theorem dX9_codes_209 : decode cX9_codes 209 = .ok (.ifCond .eq 7, 3) := by decide +kernel
theorem dX9_codes_212 : decode cX9_codes 212 = .ok (.iconst 0, 1) := by decide +kernel
theorem dX9_codes_213 : decode cX9_codes 213 = .ok (.goto 4, 3) := by decide +kernel
theorem dX9_codes_216 : decode cX9_codes 216 = .ok (.iconst 1, 1) := by decide +kernel
theorem dX9_codes_217 : decode cX9_codes 217 = .ok (.iadd, 1) := by decide +kernel
theorem dX9_codes_218 : decode cX9_codes 218 = .ok (.istore 5, 2) := by decide +kernel
theorem dX9_codes_220 : decode cX9_codes 220 = .ok (.iinc 6 1, 3) := by decide +kernel
theorem dX9_codes_223 : decode cX9_codes 223 = .ok (.goto (-56), 3) := by decide +kernel
theorem dX9_codes_226 : decode cX9_codes 226 = .ok (.aload_n 0, 1) := by decide +kernel
theorem dX9_codes_227 : decode cX9_codes 227 = .ok (.iload 4, 2) := by decide +kernel
theorem dX9_codes_229 : decode cX9_codes 229 = .ok (.iload 4, 2) := by decide +kernel
theorem dX9_codes_231 : decode cX9_codes 231 = .ok (.iconst 1, 1) := by decide +kernel
theorem dX9_codes_232 : decode cX9_codes 232 = .ok (.iadd, 1) := by decide +kernel
theorem dX9_codes_233 : decode cX9_codes 233 = .ok (.iload 5, 2) := by decide +kernel
theorem dX9_codes_235 : decode cX9_codes 235 = .ok (.invokevirtual 122, 3) := by decide +kernel
theorem dX9_codes_238 : decode cX9_codes 238 = .ok (.return_, 1) := by decide +kernel
theorem dX9_empties_0 : decode cX9_empties 0 = .ok (.aload_n 0, 1) := by decide +kernel
theorem dX9_empties_1 : decode cX9_empties 1 = .ok (.getfield 7, 3) := by decide +kernel
theorem dX9_empties_4 : decode cX9_empties 4 = .ok (.iconst 4, 1) := by decide +kernel
theorem dX9_empties_5 : decode cX9_empties 5 = .ok (.iconst 0, 1) := by decide +kernel
theorem dX9_empties_6 : decode cX9_empties 6 = .ok (.iastore, 1) := by decide +kernel
theorem dX9_empties_7 : decode cX9_empties 7 = .ok (.bipush 10, 2) := by decide +kernel
theorem dX9_empties_9 : decode cX9_empties 9 = .ok (.istore_n 1, 1) := by decide +kernel
theorem dX9_empties_10 : decode cX9_empties 10 = .ok (.iload_n 1, 1) := by decide +kernel
theorem dX9_empties_11 : decode cX9_empties 11 = .ok (.sipush 24260, 3) := by decide +kernel
theorem dX9_empties_14 : decode cX9_empties 14 = .ok (.if_icmp .ge 16, 3) := by decide +kernel
theorem dX9_empties_17 : decode cX9_empties 17 = .ok (.aload_n 0, 1) := by decide +kernel
theorem dX9_empties_18 : decode cX9_empties 18 = .ok (.getfield 7, 3) := by decide +kernel
theorem dX9_empties_21 : decode cX9_empties 21 = .ok (.iload_n 1, 1) := by decide +kernel
theorem dX9_empties_22 : decode cX9_empties 22 = .ok (.iconst 0, 1) := by decide +kernel
theorem dX9_empties_23 : decode cX9_empties 23 = .ok (.iastore, 1) := by decide +kernel
theorem dX9_empties_24 : decode cX9_empties 24 = .ok (.iinc 1 1, 3) := by decide +kernel
theorem dX9_empties_27 : decode cX9_empties 27 = .ok (.goto (-17), 3) := by decide +kernel
theorem dX9_empties_30 : decode cX9_empties 30 = .ok (.return_, 1) := by decide +kernel
theorem dX9_setOrder_0 : decode cX9_setOrder 0 = .ok (.iload_n 1, 1) := by decide +kernel
theorem dX9_setOrder_1 : decode cX9_setOrder 1 = .ok (.iconst 0, 1) := by decide +kernel
theorem dX9_setOrder_2 : decode cX9_setOrder 2 = .ok (.iconst 3, 1) := by decide +kernel
theorem dX9_setOrder_3 : decode cX9_setOrder 3 = .ok (.invokestatic 130, 3) := by decide +kernel
theorem dX9_setOrder_6 : decode cX9_setOrder 6 = .ok (.ifCond .ne 5, 3) := by decide +kernel
theorem dX9_setOrder_9 : decode cX9_setOrder 9 = .ok (.iconst (-1), 1) := by decide +kernel
theorem dX9_setOrder_10 : decode cX9_setOrder 10 = .ok (.ireturn, 1) := by decide +kernel
theorem dX9_setOrder_11 : decode cX9_setOrder 11 = .ok (.aload_n 0, 1) := by decide +kernel
theorem dX9_setOrder_12 : decode cX9_setOrder 12 = .ok (.iconst 0, 1) := by decide +kernel
theorem dX9_setOrder_13 : decode cX9_setOrder 13 = .ok (.iload_n 1, 1) := by decide +kernel
theorem dX9_setOrder_14 : decode cX9_setOrder 14 = .ok (.invokevirtual 134, 3) := by decide +kernel
theorem dX9_setOrder_17 : decode cX9_setOrder 17 = .ok (.istore_n 2, 1) := by decide +kernel
theorem dX9_setOrder_18 : decode cX9_setOrder 18 = .ok (.aload_n 0, 1) := by decide +kernel
theorem dX9_setOrder_19 : decode cX9_setOrder 19 = .ok (.invokevirtual 137, 3) := by decide +kernel
theorem dX9_setOrder_22 : decode cX9_setOrder 22 = .ok (.iload_n 2, 1) := by decide +kernel
theorem dX9_setOrder_23 : decode cX9_setOrder 23 = .ok (.ireturn, 1) := by decide +kernel
theorem dX9_setExclusion_0 : decode cX9_setExclusion 0 = .ok (.aload_n 0, 1) := by decide +kernel
theorem dX9_setExclusion_1 : decode cX9_setExclusion 1 = .ok (.iconst 1, 1) := by decide +kernel
theorem dX9_setExclusion_2 : decode cX9_setExclusion 2 = .ok (.iload_n 1, 1) := by decide +kernel
theorem dX9_setExclusion_3 : decode cX9_setExclusion 3 = .ok (.ifCond .eq 7, 3) := by decide +kernel
theorem dX9_setExclusion_6 : decode cX9_setExclusion 6 = .ok (.iconst 1, 1) := by decide +kernel
theorem dX9_setExclusion_7 : decode cX9_setExclusion 7 = .ok (.goto 4, 3) := by decide +kernel
theorem dX9_setExclusion_10 : decode cX9_setExclusion 10 = .ok (.iconst 0, 1) := by decide +kernel
theorem dX9_setExclusion_11 : decode cX9_setExclusion 11 = .ok (.invokevirtual 134, 3) := by decide +kernel
theorem dX9_setExclusion_14 : decode cX9_setExclusion 14 = .ok (.ireturn, 1) := by decide +kernel
theorem dX9_setStep_0 : decode cX9_setStep 0 = .ok (.iload_n 1, 1) := by decide +kernel
theorem dX9_setStep_1 : decode cX9_setStep 1 = .ok (.iconst 1, 1) := by decide +kernel
theorem dX9_setStep_2 : decode cX9_setStep 2 = .ok (.bipush 10, 2) := by decide +kernel
theorem dX9_setStep_4 : decode cX9_setStep 4 = .ok (.invokestatic 130, 3) := by decide +kernel
theorem dX9_setStep_7 : decode cX9_setStep 7 = .ok (.ifCond .eq 12, 3) := by decide +kernel
theorem dX9_setStep_10 : decode cX9_setStep 10 = .ok (.aload_n 0, 1) := by decide +kernel
theorem dX9_setStep_11 : decode cX9_setStep 11 = .ok (.iconst 2, 1) := by decide +kernel
theorem dX9_setStep_12 : decode cX9_setStep 12 = .ok (.iload_n 1, 1) := by decide +kernel
theorem dX9_setStep_13 : decode cX9_setStep 13 = .ok (.invokevirtual 134, 3) := by decide +kernel
theorem dX9_setStep_16 : decode cX9_setStep 16 = .ok (.goto 4, 3) := by decide +kernel
theorem dX9_setStep_19 : decode cX9_setStep 19 = .ok (.iconst (-1), 1) := by decide +kernel
theorem dX9_setStep_20 : decode cX9_setStep 20 = .ok (.ireturn, 1) := by decide +kernel
theorem dX9_setLimit_0 : decode cX9_setLimit 0 = .ok (.iload_n 1, 1) := by decide +kernel
theorem dX9_setLimit_1 : decode cX9_setLimit 1 = .ok (.bipush 20, 2) := by decide +kernel
theorem dX9_setLimit_3 : decode cX9_setLimit 3 = .ok (.sipush 1000, 3) := by decide +kernel
theorem dX9_setLimit_6 : decode cX9_setLimit 6 = .ok (.invokestatic 130, 3) := by decide +kernel
theorem dX9_setLimit_9 : decode cX9_setLimit 9 = .ok (.ifCond .eq 12, 3) := by decide +kernel
theorem dX9_setLimit_12 : decode cX9_setLimit 12 = .ok (.aload_n 0, 1) := by decide +kernel
theorem dX9_setLimit_13 : decode cX9_setLimit 13 = .ok (.iconst 3, 1) := by decide +kernel
theorem dX9_setLimit_14 : decode cX9_setLimit 14 = .ok (.iload_n 1, 1) := by decide +kernel
theorem dX9_setLimit_15 : decode cX9_setLimit 15 = .ok (.invokevirtual 134, 3) := by decide +kernel
theorem dX9_setLimit_18 : decode cX9_setLimit 18 = .ok (.goto 4, 3) := by decide +kernel
theorem dX9_setLimit_21 : decode cX9_setLimit 21 = .ok (.iconst (-1), 1) := by decide +kernel
theorem dX9_setLimit_22 : decode cX9_setLimit 22 = .ok (.ireturn, 1) := by decide +kernel
theorem dX9_forget_0 : decode cX9_forget 0 = .ok (.aload_n 0, 1) := by decide +kernel
theorem dX9_forget_1 : decode cX9_forget 1 = .ok (.aload_n 0, 1) := by decide +kernel
theorem dX9_forget_2 : decode cX9_forget 2 = .ok (.getfield 7, 3) := by decide +kernel
theorem dX9_forget_5 : decode cX9_forget 5 = .ok (.invokevirtual 41, 3) := by decide +kernel
theorem dX9_forget_8 : decode cX9_forget 8 = .ok (.aload_n 0, 1) := by decide +kernel
theorem dX9_forget_9 : decode cX9_forget 9 = .ok (.getfield 7, 3) := by decide +kernel
theorem dX9_forget_12 : decode cX9_forget 12 = .ok (.iconst 4, 1) := by decide +kernel
theorem dX9_forget_13 : decode cX9_forget 13 = .ok (.iaload, 1) := by decide +kernel
theorem dX9_forget_14 : decode cX9_forget 14 = .ok (.istore_n 1, 1) := by decide +kernel
theorem dX9_forget_15 : decode cX9_forget 15 = .ok (.aload_n 0, 1) := by decide +kernel
theorem dX9_forget_16 : decode cX9_forget 16 = .ok (.invokevirtual 137, 3) := by decide +kernel
theorem dX9_forget_19 : decode cX9_forget 19 = .ok (.iload_n 1, 1) := by decide +kernel
theorem dX9_forget_20 : decode cX9_forget 20 = .ok (.ireturn, 1) := by decide +kernel
theorem dX9_symbolAt_0 : decode cX9_symbolAt 0 = .ok (.iload_n 3, 1) := by decide +kernel
theorem dX9_symbolAt_1 : decode cX9_symbolAt 1 = .ok (.iload_n 2, 1) := by decide +kernel
theorem dX9_symbolAt_2 : decode cX9_symbolAt 2 = .ok (.if_icmp .ge 12, 3) := by decide +kernel
theorem dX9_symbolAt_5 : decode cX9_symbolAt 5 = .ok (.aload_n 1, 1) := by decide +kernel
theorem dX9_symbolAt_6 : decode cX9_symbolAt 6 = .ok (.iload_n 3, 1) := by decide +kernel
theorem dX9_symbolAt_7 : decode cX9_symbolAt 7 = .ok (.iaload, 1) := by decide +kernel
theorem dX9_symbolAt_8 : decode cX9_symbolAt 8 = .ok (.bipush 32, 2) := by decide +kernel
theorem dX9_symbolAt_10 : decode cX9_symbolAt 10 = .ok (.isub, 1) := by decide +kernel
theorem dX9_symbolAt_11 : decode cX9_symbolAt 11 = .ok (.goto 5, 3) := by decide +kernel
theorem dX9_symbolAt_14 : decode cX9_symbolAt 14 = .ok (.bipush 95, 2) := by decide +kernel
theorem dX9_symbolAt_16 : decode cX9_symbolAt 16 = .ok (.ireturn, 1) := by decide +kernel
theorem dX9_learn_0 : decode cX9_learn 0 = .ok (.aload_n 0, 1) := by decide +kernel
theorem dX9_learn_1 : decode cX9_learn 1 = .ok (.aload_n 0, 1) := by decide +kernel
theorem dX9_learn_2 : decode cX9_learn 2 = .ok (.getfield 7, 3) := by decide +kernel
theorem dX9_learn_5 : decode cX9_learn 5 = .ok (.invokevirtual 41, 3) := by decide +kernel
theorem dX9_learn_8 : decode cX9_learn 8 = .ok (.iconst 0, 1) := by decide +kernel
theorem dX9_learn_9 : decode cX9_learn 9 = .ok (.istore_n 1, 1) := by decide +kernel
theorem dX9_learn_10 : decode cX9_learn 10 = .ok (.iload_n 1, 1) := by decide +kernel
theorem dX9_learn_11 : decode cX9_learn 11 = .ok (.aload_n 0, 1) := by decide +kernel
theorem dX9_learn_12 : decode cX9_learn 12 = .ok (.getfield 140, 3) := by decide +kernel
theorem dX9_learn_15 : decode cX9_learn 15 = .ok (.if_icmp .gt 31, 3) := by decide +kernel
theorem dX9_learn_18 : decode cX9_learn 18 = .ok (.aload_n 0, 1) := by decide +kernel
theorem dX9_learn_19 : decode cX9_learn 19 = .ok (.aload_n 0, 1) := by decide +kernel
theorem dX9_learn_20 : decode cX9_learn 20 = .ok (.getfield 20, 3) := by decide +kernel
theorem dX9_learn_23 : decode cX9_learn 23 = .ok (.iload_n 1, 1) := by decide +kernel
theorem dX9_learn_24 : decode cX9_learn 24 = .ok (.aload_n 0, 1) := by decide +kernel
theorem dX9_learn_25 : decode cX9_learn 25 = .ok (.aload_n 0, 1) := by decide +kernel
theorem dX9_learn_26 : decode cX9_learn 26 = .ok (.getfield 20, 3) := by decide +kernel
theorem dX9_learn_29 : decode cX9_learn 29 = .ok (.aload_n 0, 1) := by decide +kernel
theorem dX9_learn_30 : decode cX9_learn 30 = .ok (.getfield 140, 3) := by decide +kernel
theorem dX9_learn_33 : decode cX9_learn 33 = .ok (.iload_n 1, 1) := by decide +kernel
theorem dX9_learn_34 : decode cX9_learn 34 = .ok (.invokevirtual 143, 3) := by decide +kernel
theorem dX9_learn_37 : decode cX9_learn 37 = .ok (.invokevirtual 146, 3) := by decide +kernel
theorem dX9_learn_40 : decode cX9_learn 40 = .ok (.iinc 1 1, 3) := by decide +kernel
theorem dX9_learn_43 : decode cX9_learn 43 = .ok (.goto (-33), 3) := by decide +kernel
theorem dX9_learn_46 : decode cX9_learn 46 = .ok (.aload_n 0, 1) := by decide +kernel
theorem dX9_learn_47 : decode cX9_learn 47 = .ok (.getfield 7, 3) := by decide +kernel
theorem dX9_learn_50 : decode cX9_learn 50 = .ok (.iconst 4, 1) := by decide +kernel
theorem dX9_learn_51 : decode cX9_learn 51 = .ok (.iaload, 1) := by decide +kernel
theorem dX9_learn_52 : decode cX9_learn 52 = .ok (.ireturn, 1) := by decide +kernel
theorem dX9_contexts_0 : decode cX9_contexts 0 = .ok (.aload_n 0, 1) := by decide +kernel
theorem dX9_contexts_1 : decode cX9_contexts 1 = .ok (.getfield 7, 3) := by decide +kernel
theorem dX9_contexts_4 : decode cX9_contexts 4 = .ok (.iconst 4, 1) := by decide +kernel
theorem dX9_contexts_5 : decode cX9_contexts 5 = .ok (.iaload, 1) := by decide +kernel
theorem dX9_contexts_6 : decode cX9_contexts 6 = .ok (.ireturn, 1) := by decide +kernel
theorem dX9_count_0 : decode cX9_count 0 = .ok (.iload_n 1, 1) := by decide +kernel
theorem dX9_count_1 : decode cX9_count 1 = .ok (.iconst 0, 1) := by decide +kernel
theorem dX9_count_2 : decode cX9_count 2 = .ok (.iconst 3, 1) := by decide +kernel
theorem dX9_count_3 : decode cX9_count 3 = .ok (.invokestatic 130, 3) := by decide +kernel
theorem dX9_count_6 : decode cX9_count 6 = .ok (.ifCond .eq 13, 3) := by decide +kernel
theorem dX9_count_9 : decode cX9_count 9 = .ok (.iload_n 2, 1) := by decide +kernel
theorem dX9_count_10 : decode cX9_count 10 = .ok (.iconst 0, 1) := by decide +kernel
theorem dX9_count_11 : decode cX9_count 11 = .ok (.bipush 95, 2) := by decide +kernel
theorem dX9_count_13 : decode cX9_count 13 = .ok (.invokestatic 130, 3) := by decide +kernel
theorem dX9_count_16 : decode cX9_count 16 = .ok (.ifCond .ne 5, 3) := by decide +kernel
theorem dX9_count_19 : decode cX9_count 19 = .ok (.iconst (-1), 1) := by decide +kernel
theorem dX9_count_20 : decode cX9_count 20 = .ok (.ireturn, 1) := by decide +kernel
theorem dX9_count_21 : decode cX9_count 21 = .ok (.iload_n 1, 1) := by decide +kernel
theorem dX9_count_22 : decode cX9_count 22 = .ok (.aload_n 0, 1) := by decide +kernel
theorem dX9_count_23 : decode cX9_count 23 = .ok (.getfield 140, 3) := by decide +kernel
theorem dX9_count_26 : decode cX9_count 26 = .ok (.if_icmp .le 7, 3) := by decide +kernel
theorem dX9_count_29 : decode cX9_count 29 = .ok (.iconst (-1), 1) := by decide +kernel
theorem dX9_count_30 : decode cX9_count 30 = .ok (.goto 16, 3) := by decide +kernel
theorem dX9_count_33 : decode cX9_count 33 = .ok (.aload_n 0, 1) := by decide +kernel
theorem dX9_count_34 : decode cX9_count 34 = .ok (.aload_n 0, 1) := by decide +kernel
theorem dX9_count_35 : decode cX9_count 35 = .ok (.getfield 20, 3) := by decide +kernel
theorem dX9_count_38 : decode cX9_count 38 = .ok (.aload_n 0, 1) := by decide +kernel
theorem dX9_count_39 : decode cX9_count 39 = .ok (.getfield 140, 3) := by decide +kernel
theorem dX9_count_42 : decode cX9_count 42 = .ok (.iload_n 1, 1) := by decide +kernel
theorem dX9_count_43 : decode cX9_count 43 = .ok (.invokevirtual 57, 3) := by decide +kernel
theorem dX9_count_46 : decode cX9_count 46 = .ok (.istore_n 3, 1) := by decide +kernel
theorem dX9_count_47 : decode cX9_count 47 = .ok (.iload_n 3, 1) := by decide +kernel
theorem dX9_count_48 : decode cX9_count 48 = .ok (.ifCond .ge 8, 3) := by decide +kernel
theorem dX9_count_51 : decode cX9_count 51 = .ok (.bipush (-9), 2) := by decide +kernel
theorem dX9_count_53 : decode cX9_count 53 = .ok (.goto 9, 3) := by decide +kernel
theorem dX9_count_56 : decode cX9_count 56 = .ok (.aload_n 0, 1) := by decide +kernel
theorem dX9_count_57 : decode cX9_count 57 = .ok (.iload_n 3, 1) := by decide +kernel
theorem dX9_count_58 : decode cX9_count 58 = .ok (.iload_n 2, 1) := by decide +kernel
theorem dX9_count_59 : decode cX9_count 59 = .ok (.invokevirtual 49, 3) := by decide +kernel
theorem dX9_count_62 : decode cX9_count 62 = .ok (.ireturn, 1) := by decide +kernel
theorem dX9_weight_0 : decode cX9_weight 0 = .ok (.iload_n 1, 1) := by decide +kernel
theorem dX9_weight_1 : decode cX9_weight 1 = .ok (.iconst 0, 1) := by decide +kernel
theorem dX9_weight_2 : decode cX9_weight 2 = .ok (.iconst 3, 1) := by decide +kernel
theorem dX9_weight_3 : decode cX9_weight 3 = .ok (.invokestatic 130, 3) := by decide +kernel
theorem dX9_weight_6 : decode cX9_weight 6 = .ok (.ifCond .ne 5, 3) := by decide +kernel
theorem dX9_weight_9 : decode cX9_weight 9 = .ok (.iconst (-1), 1) := by decide +kernel
theorem dX9_weight_10 : decode cX9_weight 10 = .ok (.ireturn, 1) := by decide +kernel
theorem dX9_weight_11 : decode cX9_weight 11 = .ok (.iload_n 1, 1) := by decide +kernel
theorem dX9_weight_12 : decode cX9_weight 12 = .ok (.aload_n 0, 1) := by decide +kernel
theorem dX9_weight_13 : decode cX9_weight 13 = .ok (.getfield 140, 3) := by decide +kernel
theorem dX9_weight_16 : decode cX9_weight 16 = .ok (.if_icmp .le 7, 3) := by decide +kernel
theorem dX9_weight_19 : decode cX9_weight 19 = .ok (.iconst (-1), 1) := by decide +kernel
theorem dX9_weight_20 : decode cX9_weight 20 = .ok (.goto 16, 3) := by decide +kernel
theorem dX9_weight_23 : decode cX9_weight 23 = .ok (.aload_n 0, 1) := by decide +kernel
theorem dX9_weight_24 : decode cX9_weight 24 = .ok (.aload_n 0, 1) := by decide +kernel
theorem dX9_weight_25 : decode cX9_weight 25 = .ok (.getfield 20, 3) := by decide +kernel
theorem dX9_weight_28 : decode cX9_weight 28 = .ok (.aload_n 0, 1) := by decide +kernel
theorem dX9_weight_29 : decode cX9_weight 29 = .ok (.getfield 140, 3) := by decide +kernel
theorem dX9_weight_32 : decode cX9_weight 32 = .ok (.iload_n 1, 1) := by decide +kernel
theorem dX9_weight_33 : decode cX9_weight 33 = .ok (.invokevirtual 57, 3) := by decide +kernel
theorem dX9_weight_36 : decode cX9_weight 36 = .ok (.istore_n 2, 1) := by decide +kernel
theorem dX9_weight_37 : decode cX9_weight 37 = .ok (.iload_n 2, 1) := by decide +kernel
theorem dX9_weight_38 : decode cX9_weight 38 = .ok (.ifCond .ge 8, 3) := by decide +kernel
theorem dX9_weight_41 : decode cX9_weight 41 = .ok (.bipush (-9), 2) := by decide +kernel
theorem dX9_weight_43 : decode cX9_weight 43 = .ok (.goto 8, 3) := by decide +kernel
theorem dX9_weight_46 : decode cX9_weight 46 = .ok (.aload_n 0, 1) := by decide +kernel
theorem dX9_weight_47 : decode cX9_weight 47 = .ok (.iload_n 2, 1) := by decide +kernel
theorem dX9_weight_48 : decode cX9_weight 48 = .ok (.invokevirtual 53, 3) := by decide +kernel
theorem dX9_weight_51 : decode cX9_weight 51 = .ok (.ireturn, 1) := by decide +kernel
theorem dX9_priceOf_0 : decode cX9_priceOf 0 = .ok (.aload_n 0, 1) := by decide +kernel
theorem dX9_priceOf_1 : decode cX9_priceOf 1 = .ok (.iconst 0, 1) := by decide +kernel
theorem dX9_priceOf_2 : decode cX9_priceOf 2 = .ok (.putfield 99, 3) := by decide +kernel
theorem dX9_priceOf_5 : decode cX9_priceOf 5 = .ok (.aload_n 0, 1) := by decide +kernel
theorem dX9_priceOf_6 : decode cX9_priceOf 6 = .ok (.aload_n 0, 1) := by decide +kernel
theorem dX9_priceOf_7 : decode cX9_priceOf 7 = .ok (.getfield 20, 3) := by decide +kernel
theorem dX9_priceOf_10 : decode cX9_priceOf 10 = .ok (.aload_n 0, 1) := by decide +kernel
theorem dX9_priceOf_11 : decode cX9_priceOf 11 = .ok (.getfield 140, 3) := by decide +kernel
theorem dX9_priceOf_14 : decode cX9_priceOf 14 = .ok (.iload_n 1, 1) := by decide +kernel
theorem dX9_priceOf_15 : decode cX9_priceOf 15 = .ok (.invokevirtual 150, 3) := by decide +kernel
theorem dX9_priceOf_18 : decode cX9_priceOf 18 = .ok (.aload_n 0, 1) := by decide +kernel
theorem dX9_priceOf_19 : decode cX9_priceOf 19 = .ok (.getfield 93, 3) := by decide +kernel
theorem dX9_priceOf_22 : decode cX9_priceOf 22 = .ok (.ireturn, 1) := by decide +kernel
theorem dX9_price_0 : decode cX9_price 0 = .ok (.iload_n 1, 1) := by decide +kernel
theorem dX9_price_1 : decode cX9_price 1 = .ok (.iconst 0, 1) := by decide +kernel
theorem dX9_price_2 : decode cX9_price 2 = .ok (.bipush 95, 2) := by decide +kernel
theorem dX9_price_4 : decode cX9_price 4 = .ok (.invokestatic 130, 3) := by decide +kernel
theorem dX9_price_7 : decode cX9_price 7 = .ok (.ifCond .eq 11, 3) := by decide +kernel
theorem dX9_price_10 : decode cX9_price 10 = .ok (.aload_n 0, 1) := by decide +kernel
theorem dX9_price_11 : decode cX9_price 11 = .ok (.iload_n 1, 1) := by decide +kernel
theorem dX9_price_12 : decode cX9_price 12 = .ok (.invokevirtual 153, 3) := by decide +kernel
theorem dX9_price_15 : decode cX9_price 15 = .ok (.goto 4, 3) := by decide +kernel
theorem dX9_price_18 : decode cX9_price 18 = .ok (.iconst (-1), 1) := by decide +kernel
theorem dX9_price_19 : decode cX9_price 19 = .ok (.ireturn, 1) := by decide +kernel
theorem dX9_guess_0 : decode cX9_guess 0 = .ok (.iconst 0, 1) := by decide +kernel
theorem dX9_guess_1 : decode cX9_guess 1 = .ok (.istore_n 1, 1) := by decide +kernel
theorem dX9_guess_2 : decode cX9_guess 2 = .ok (.aload_n 0, 1) := by decide +kernel
theorem dX9_guess_3 : decode cX9_guess 3 = .ok (.iconst 0, 1) := by decide +kernel
theorem dX9_guess_4 : decode cX9_guess 4 = .ok (.invokevirtual 153, 3) := by decide +kernel
theorem dX9_guess_7 : decode cX9_guess 7 = .ok (.istore_n 2, 1) := by decide +kernel
theorem dX9_guess_8 : decode cX9_guess 8 = .ok (.iconst 1, 1) := by decide +kernel
theorem dX9_guess_9 : decode cX9_guess 9 = .ok (.istore_n 3, 1) := by decide +kernel
theorem dX9_guess_10 : decode cX9_guess 10 = .ok (.iload_n 3, 1) := by decide +kernel
theorem dX9_guess_11 : decode cX9_guess 11 = .ok (.bipush 96, 2) := by decide +kernel
theorem dX9_guess_13 : decode cX9_guess 13 = .ok (.if_icmp .ge 41, 3) := by decide +kernel
theorem dX9_guess_16 : decode cX9_guess 16 = .ok (.aload_n 0, 1) := by decide +kernel
theorem dX9_guess_17 : decode cX9_guess 17 = .ok (.iload_n 3, 1) := by decide +kernel
theorem dX9_guess_18 : decode cX9_guess 18 = .ok (.invokevirtual 153, 3) := by decide +kernel
theorem dX9_guess_21 : decode cX9_guess 21 = .ok (.istore 4, 2) := by decide +kernel
theorem dX9_guess_23 : decode cX9_guess 23 = .ok (.iload 4, 2) := by decide +kernel
theorem dX9_guess_25 : decode cX9_guess 25 = .ok (.iload_n 2, 1) := by decide +kernel
theorem dX9_guess_26 : decode cX9_guess 26 = .ok (.if_icmp .ge 7, 3) := by decide +kernel
theorem dX9_guess_29 : decode cX9_guess 29 = .ok (.iload_n 3, 1) := by decide +kernel
theorem dX9_guess_30 : decode cX9_guess 30 = .ok (.goto 4, 3) := by decide +kernel
theorem dX9_guess_33 : decode cX9_guess 33 = .ok (.iload_n 1, 1) := by decide +kernel
theorem dX9_guess_34 : decode cX9_guess 34 = .ok (.istore_n 1, 1) := by decide +kernel
theorem dX9_guess_35 : decode cX9_guess 35 = .ok (.iload 4, 2) := by decide +kernel
theorem dX9_guess_37 : decode cX9_guess 37 = .ok (.iload_n 2, 1) := by decide +kernel
theorem dX9_guess_38 : decode cX9_guess 38 = .ok (.if_icmp .ge 8, 3) := by decide +kernel
theorem dX9_guess_41 : decode cX9_guess 41 = .ok (.iload 4, 2) := by decide +kernel
theorem dX9_guess_43 : decode cX9_guess 43 = .ok (.goto 4, 3) := by decide +kernel
theorem dX9_guess_46 : decode cX9_guess 46 = .ok (.iload_n 2, 1) := by decide +kernel
theorem dX9_guess_47 : decode cX9_guess 47 = .ok (.istore_n 2, 1) := by decide +kernel
theorem dX9_guess_48 : decode cX9_guess 48 = .ok (.iinc 3 1, 3) := by decide +kernel
theorem dX9_guess_51 : decode cX9_guess 51 = .ok (.goto (-41), 3) := by decide +kernel
theorem dX9_guess_54 : decode cX9_guess 54 = .ok (.iload_n 1, 1) := by decide +kernel
theorem dX9_guess_55 : decode cX9_guess 55 = .ok (.ireturn, 1) := by decide +kernel
theorem dX9_type_0 : decode cX9_type 0 = .ok (.iload_n 1, 1) := by decide +kernel
theorem dX9_type_1 : decode cX9_type 1 = .ok (.bipush 32, 2) := by decide +kernel
theorem dX9_type_3 : decode cX9_type 3 = .ok (.bipush 126, 2) := by decide +kernel
theorem dX9_type_5 : decode cX9_type 5 = .ok (.invokestatic 130, 3) := by decide +kernel
theorem dX9_type_8 : decode cX9_type 8 = .ok (.ifCond .ne 5, 3) := by decide +kernel
theorem dX9_type_11 : decode cX9_type 11 = .ok (.iconst (-1), 1) := by decide +kernel
theorem dX9_type_12 : decode cX9_type 12 = .ok (.ireturn, 1) := by decide +kernel
theorem dX9_type_13 : decode cX9_type 13 = .ok (.aload_n 0, 1) := by decide +kernel
theorem dX9_type_14 : decode cX9_type 14 = .ok (.getfield 140, 3) := by decide +kernel
theorem dX9_type_17 : decode cX9_type 17 = .ok (.sipush 200, 3) := by decide +kernel
theorem dX9_type_20 : decode cX9_type 20 = .ok (.if_icmp .ne 6, 3) := by decide +kernel
theorem dX9_type_23 : decode cX9_type 23 = .ok (.bipush (-3), 2) := by decide +kernel
theorem dX9_type_25 : decode cX9_type 25 = .ok (.ireturn, 1) := by decide +kernel
theorem dX9_type_26 : decode cX9_type 26 = .ok (.aload_n 0, 1) := by decide +kernel
theorem dX9_type_27 : decode cX9_type 27 = .ok (.getfield 20, 3) := by decide +kernel
theorem dX9_type_30 : decode cX9_type 30 = .ok (.aload_n 0, 1) := by decide +kernel
theorem dX9_type_31 : decode cX9_type 31 = .ok (.getfield 140, 3) := by decide +kernel
theorem dX9_type_34 : decode cX9_type 34 = .ok (.iload_n 1, 1) := by decide +kernel
theorem dX9_type_35 : decode cX9_type 35 = .ok (.iastore, 1) := by decide +kernel
theorem dX9_type_36 : decode cX9_type 36 = .ok (.aload_n 0, 1) := by decide +kernel
theorem dX9_type_37 : decode cX9_type 37 = .ok (.dup, 1) := by decide +kernel
theorem dX9_type_38 : decode cX9_type 38 = .ok (.getfield 140, 3) := by decide +kernel
theorem dX9_type_41 : decode cX9_type 41 = .ok (.iconst 1, 1) := by decide +kernel
theorem dX9_type_42 : decode cX9_type 42 = .ok (.iadd, 1) := by decide +kernel
theorem dX9_type_43 : decode cX9_type 43 = .ok (.putfield 140, 3) := by decide +kernel
theorem dX9_type_46 : decode cX9_type 46 = .ok (.aload_n 0, 1) := by decide +kernel
theorem dX9_type_47 : decode cX9_type 47 = .ok (.getfield 140, 3) := by decide +kernel
theorem dX9_type_50 : decode cX9_type 50 = .ok (.ireturn, 1) := by decide +kernel
theorem dX9_remove_0 : decode cX9_remove 0 = .ok (.iload_n 1, 1) := by decide +kernel
theorem dX9_remove_1 : decode cX9_remove 1 = .ok (.ifCond .ge 5, 3) := by decide +kernel
theorem dX9_remove_4 : decode cX9_remove 4 = .ok (.iconst (-1), 1) := by decide +kernel
theorem dX9_remove_5 : decode cX9_remove 5 = .ok (.ireturn, 1) := by decide +kernel
theorem dX9_remove_6 : decode cX9_remove 6 = .ok (.aload_n 0, 1) := by decide +kernel
theorem dX9_remove_7 : decode cX9_remove 7 = .ok (.iload_n 1, 1) := by decide +kernel
theorem dX9_remove_8 : decode cX9_remove 8 = .ok (.aload_n 0, 1) := by decide +kernel
theorem dX9_remove_9 : decode cX9_remove 9 = .ok (.getfield 140, 3) := by decide +kernel
theorem dX9_remove_12 : decode cX9_remove 12 = .ok (.if_icmp .le 7, 3) := by decide +kernel
theorem dX9_remove_15 : decode cX9_remove 15 = .ok (.iconst 0, 1) := by decide +kernel
theorem dX9_remove_16 : decode cX9_remove 16 = .ok (.goto 9, 3) := by decide +kernel
theorem dX9_remove_19 : decode cX9_remove 19 = .ok (.aload_n 0, 1) := by decide +kernel
theorem dX9_remove_20 : decode cX9_remove 20 = .ok (.getfield 140, 3) := by decide +kernel
theorem dX9_remove_23 : decode cX9_remove 23 = .ok (.iload_n 1, 1) := by decide +kernel
theorem dX9_remove_24 : decode cX9_remove 24 = .ok (.isub, 1) := by decide +kernel
theorem dX9_remove_25 : decode cX9_remove 25 = .ok (.putfield 140, 3) := by decide +kernel
theorem dX9_remove_28 : decode cX9_remove 28 = .ok (.aload_n 0, 1) := by decide +kernel
theorem dX9_remove_29 : decode cX9_remove 29 = .ok (.getfield 140, 3) := by decide +kernel
theorem dX9_remove_32 : decode cX9_remove 32 = .ok (.ireturn, 1) := by decide +kernel
theorem dX9_checkOf_0 : decode cX9_checkOf 0 = .ok (.iconst 1, 1) := by decide +kernel
theorem dX9_checkOf_1 : decode cX9_checkOf 1 = .ok (.istore_n 2, 1) := by decide +kernel
theorem dX9_checkOf_2 : decode cX9_checkOf 2 = .ok (.iconst 0, 1) := by decide +kernel
theorem dX9_checkOf_3 : decode cX9_checkOf 3 = .ok (.istore_n 3, 1) := by decide +kernel
theorem dX9_checkOf_4 : decode cX9_checkOf 4 = .ok (.iload_n 3, 1) := by decide +kernel
theorem dX9_checkOf_5 : decode cX9_checkOf 5 = .ok (.iload_n 1, 1) := by decide +kernel
theorem dX9_checkOf_6 : decode cX9_checkOf 6 = .ok (.if_icmp .ge 21, 3) := by decide +kernel
theorem dX9_checkOf_9 : decode cX9_checkOf 9 = .ok (.bipush 31, 2) := by decide +kernel
theorem dX9_checkOf_11 : decode cX9_checkOf 11 = .ok (.iload_n 2, 1) := by decide +kernel
theorem dX9_checkOf_12 : decode cX9_checkOf 12 = .ok (.imul, 1) := by decide +kernel
theorem dX9_checkOf_13 : decode cX9_checkOf 13 = .ok (.aload_n 0, 1) := by decide +kernel
theorem dX9_checkOf_14 : decode cX9_checkOf 14 = .ok (.iload_n 3, 1) := by decide +kernel
theorem dX9_checkOf_15 : decode cX9_checkOf 15 = .ok (.iaload, 1) := by decide +kernel
theorem dX9_checkOf_16 : decode cX9_checkOf 16 = .ok (.iadd, 1) := by decide +kernel
theorem dX9_checkOf_17 : decode cX9_checkOf 17 = .ok (.ldc 156, 2) := by decide +kernel
theorem dX9_checkOf_19 : decode cX9_checkOf 19 = .ok (.irem, 1) := by decide +kernel
theorem dX9_checkOf_20 : decode cX9_checkOf 20 = .ok (.istore_n 2, 1) := by decide +kernel
theorem dX9_checkOf_21 : decode cX9_checkOf 21 = .ok (.iinc 3 1, 3) := by decide +kernel
theorem dX9_checkOf_24 : decode cX9_checkOf 24 = .ok (.goto (-20), 3) := by decide +kernel
theorem dX9_checkOf_27 : decode cX9_checkOf 27 = .ok (.iload_n 2, 1) := by decide +kernel
theorem dX9_checkOf_28 : decode cX9_checkOf 28 = .ok (.ireturn, 1) := by decide +kernel
theorem dX9_codesAll_0 : decode cX9_codesAll 0 = .ok (.aload_n 0, 1) := by decide +kernel
theorem dX9_codesAll_1 : decode cX9_codesAll 1 = .ok (.invokevirtual 157, 3) := by decide +kernel
theorem dX9_codesAll_4 : decode cX9_codesAll 4 = .ok (.aload_n 0, 1) := by decide +kernel
theorem dX9_codesAll_5 : decode cX9_codesAll 5 = .ok (.iconst 0, 1) := by decide +kernel
theorem dX9_codesAll_6 : decode cX9_codesAll 6 = .ok (.putfield 160, 3) := by decide +kernel
theorem dX9_codesAll_9 : decode cX9_codesAll 9 = .ok (.iconst 0, 1) := by decide +kernel
theorem dX9_codesAll_10 : decode cX9_codesAll 10 = .ok (.istore_n 3, 1) := by decide +kernel
theorem dX9_codesAll_11 : decode cX9_codesAll 11 = .ok (.iload_n 3, 1) := by decide +kernel
theorem dX9_codesAll_12 : decode cX9_codesAll 12 = .ok (.iload_n 2, 1) := by decide +kernel
theorem dX9_codesAll_13 : decode cX9_codesAll 13 = .ok (.if_icmp .gt 104, 3) := by decide +kernel
theorem dX9_codesAll_16 : decode cX9_codesAll 16 = .ok (.aload_n 0, 1) := by decide +kernel
theorem dX9_codesAll_17 : decode cX9_codesAll 17 = .ok (.aload_n 1, 1) := by decide +kernel
theorem dX9_codesAll_18 : decode cX9_codesAll 18 = .ok (.iload_n 2, 1) := by decide +kernel
theorem dX9_codesAll_19 : decode cX9_codesAll 19 = .ok (.iload_n 3, 1) := by decide +kernel
theorem dX9_codesAll_20 : decode cX9_codesAll 20 = .ok (.invokevirtual 143, 3) := by decide +kernel
theorem dX9_codesAll_23 : decode cX9_codesAll 23 = .ok (.istore 4, 2) := by decide +kernel
theorem dX9_codesAll_25 : decode cX9_codesAll 25 = .ok (.aload_n 0, 1) := by decide +kernel
theorem dX9_codesAll_26 : decode cX9_codesAll 26 = .ok (.iconst 1, 1) := by decide +kernel
theorem dX9_codesAll_27 : decode cX9_codesAll 27 = .ok (.putfield 99, 3) := by decide +kernel
theorem dX9_codesAll_30 : decode cX9_codesAll 30 = .ok (.aload_n 0, 1) := by decide +kernel
theorem dX9_codesAll_31 : decode cX9_codesAll 31 = .ok (.aload_n 1, 1) := by decide +kernel
theorem dX9_codesAll_32 : decode cX9_codesAll 32 = .ok (.iload_n 3, 1) := by decide +kernel
theorem dX9_codesAll_33 : decode cX9_codesAll 33 = .ok (.iload 4, 2) := by decide +kernel
theorem dX9_codesAll_35 : decode cX9_codesAll 35 = .ok (.invokevirtual 150, 3) := by decide +kernel
theorem dX9_codesAll_38 : decode cX9_codesAll 38 = .ok (.aload_n 0, 1) := by decide +kernel
theorem dX9_codesAll_39 : decode cX9_codesAll 39 = .ok (.getfield 30, 3) := by decide +kernel
theorem dX9_codesAll_42 : decode cX9_codesAll 42 = .ok (.iconst 4, 1) := by decide +kernel
theorem dX9_codesAll_43 : decode cX9_codesAll 43 = .ok (.iload_n 3, 1) := by decide +kernel
theorem dX9_codesAll_44 : decode cX9_codesAll 44 = .ok (.imul, 1) := by decide +kernel
theorem dX9_codesAll_45 : decode cX9_codesAll 45 = .ok (.aload_n 0, 1) := by decide +kernel
theorem dX9_codesAll_46 : decode cX9_codesAll 46 = .ok (.getfield 93, 3) := by decide +kernel
theorem dX9_codesAll_49 : decode cX9_codesAll 49 = .ok (.iastore, 1) := by decide +kernel
theorem dX9_codesAll_50 : decode cX9_codesAll 50 = .ok (.aload_n 0, 1) := by decide +kernel
theorem dX9_codesAll_51 : decode cX9_codesAll 51 = .ok (.getfield 30, 3) := by decide +kernel
theorem dX9_codesAll_54 : decode cX9_codesAll 54 = .ok (.iconst 4, 1) := by decide +kernel
theorem dX9_codesAll_55 : decode cX9_codesAll 55 = .ok (.iload_n 3, 1) := by decide +kernel
theorem dX9_codesAll_56 : decode cX9_codesAll 56 = .ok (.imul, 1) := by decide +kernel
theorem dX9_codesAll_57 : decode cX9_codesAll 57 = .ok (.iconst 1, 1) := by decide +kernel
theorem dX9_codesAll_58 : decode cX9_codesAll 58 = .ok (.iadd, 1) := by decide +kernel
theorem dX9_codesAll_59 : decode cX9_codesAll 59 = .ok (.aload_n 0, 1) := by decide +kernel
theorem dX9_codesAll_60 : decode cX9_codesAll 60 = .ok (.getfield 107, 3) := by decide +kernel
theorem dX9_codesAll_63 : decode cX9_codesAll 63 = .ok (.iastore, 1) := by decide +kernel
theorem dX9_codesAll_64 : decode cX9_codesAll 64 = .ok (.aload_n 0, 1) := by decide +kernel
theorem dX9_codesAll_65 : decode cX9_codesAll 65 = .ok (.getfield 30, 3) := by decide +kernel
theorem dX9_codesAll_68 : decode cX9_codesAll 68 = .ok (.iconst 4, 1) := by decide +kernel
theorem dX9_codesAll_69 : decode cX9_codesAll 69 = .ok (.iload_n 3, 1) := by decide +kernel
theorem dX9_codesAll_70 : decode cX9_codesAll 70 = .ok (.imul, 1) := by decide +kernel
theorem dX9_codesAll_71 : decode cX9_codesAll 71 = .ok (.iconst 2, 1) := by decide +kernel
theorem dX9_codesAll_72 : decode cX9_codesAll 72 = .ok (.iadd, 1) := by decide +kernel
theorem dX9_codesAll_73 : decode cX9_codesAll 73 = .ok (.aload_n 0, 1) := by decide +kernel
theorem dX9_codesAll_74 : decode cX9_codesAll 74 = .ok (.getfield 110, 3) := by decide +kernel
theorem dX9_codesAll_77 : decode cX9_codesAll 77 = .ok (.iastore, 1) := by decide +kernel
theorem dX9_codesAll_78 : decode cX9_codesAll 78 = .ok (.aload_n 0, 1) := by decide +kernel
theorem dX9_codesAll_79 : decode cX9_codesAll 79 = .ok (.getfield 30, 3) := by decide +kernel
theorem dX9_codesAll_82 : decode cX9_codesAll 82 = .ok (.iconst 4, 1) := by decide +kernel
theorem dX9_codesAll_83 : decode cX9_codesAll 83 = .ok (.iload_n 3, 1) := by decide +kernel
theorem dX9_codesAll_84 : decode cX9_codesAll 84 = .ok (.imul, 1) := by decide +kernel
theorem dX9_codesAll_85 : decode cX9_codesAll 85 = .ok (.iconst 3, 1) := by decide +kernel
theorem dX9_codesAll_86 : decode cX9_codesAll 86 = .ok (.iadd, 1) := by decide +kernel
theorem dX9_codesAll_87 : decode cX9_codesAll 87 = .ok (.iload 4, 2) := by decide +kernel
theorem dX9_codesAll_89 : decode cX9_codesAll 89 = .ok (.iastore, 1) := by decide +kernel
theorem dX9_codesAll_90 : decode cX9_codesAll 90 = .ok (.aload_n 0, 1) := by decide +kernel
theorem dX9_codesAll_91 : decode cX9_codesAll 91 = .ok (.dup, 1) := by decide +kernel
theorem dX9_codesAll_92 : decode cX9_codesAll 92 = .ok (.getfield 160, 3) := by decide +kernel
theorem dX9_codesAll_95 : decode cX9_codesAll 95 = .ok (.aload_n 0, 1) := by decide +kernel
theorem dX9_codesAll_96 : decode cX9_codesAll 96 = .ok (.getfield 93, 3) := by decide +kernel
theorem dX9_codesAll_99 : decode cX9_codesAll 99 = .ok (.iadd, 1) := by decide +kernel
theorem dX9_codesAll_100 : decode cX9_codesAll 100 = .ok (.putfield 160, 3) := by decide +kernel
theorem dX9_codesAll_103 : decode cX9_codesAll 103 = .ok (.aload_n 0, 1) := by decide +kernel
theorem dX9_codesAll_104 : decode cX9_codesAll 104 = .ok (.aload_n 1, 1) := by decide +kernel
theorem dX9_codesAll_105 : decode cX9_codesAll 105 = .ok (.iload_n 3, 1) := by decide +kernel
theorem dX9_codesAll_106 : decode cX9_codesAll 106 = .ok (.iload 4, 2) := by decide +kernel
theorem dX9_codesAll_108 : decode cX9_codesAll 108 = .ok (.invokevirtual 146, 3) := by decide +kernel
theorem dX9_codesAll_111 : decode cX9_codesAll 111 = .ok (.iinc 3 1, 3) := by decide +kernel
theorem dX9_codesAll_114 : decode cX9_codesAll 114 = .ok (.goto (-103), 3) := by decide +kernel
theorem dX9_codesAll_117 : decode cX9_codesAll 117 = .ok (.aload_n 1, 1) := by decide +kernel
theorem dX9_codesAll_118 : decode cX9_codesAll 118 = .ok (.iload_n 2, 1) := by decide +kernel
theorem dX9_codesAll_119 : decode cX9_codesAll 119 = .ok (.invokestatic 163, 3) := by decide +kernel
theorem dX9_codesAll_122 : decode cX9_codesAll 122 = .ok (.istore_n 3, 1) := by decide +kernel
theorem dX9_codesAll_123 : decode cX9_codesAll 123 = .ok (.aload_n 0, 1) := by decide +kernel
theorem dX9_codesAll_124 : decode cX9_codesAll 124 = .ok (.iload_n 3, 1) := by decide +kernel
theorem dX9_codesAll_125 : decode cX9_codesAll 125 = .ok (.i2l, 1) := by decide +kernel
theorem dX9_codesAll_126 : decode cX9_codesAll 126 = .ok (.iload_n 3, 1) := by decide +kernel
theorem dX9_codesAll_127 : decode cX9_codesAll 127 = .ok (.iconst 1, 1) := by decide +kernel
theorem dX9_codesAll_128 : decode cX9_codesAll 128 = .ok (.iadd, 1) := by decide +kernel
theorem dX9_codesAll_129 : decode cX9_codesAll 129 = .ok (.i2l, 1) := by decide +kernel
theorem dX9_codesAll_130 : decode cX9_codesAll 130 = .ok (.ldc2_w 167, 3) := by decide +kernel
theorem dX9_codesAll_133 : decode cX9_codesAll 133 = .ok (.invokevirtual 103, 3) := by decide +kernel
theorem dX9_codesAll_136 : decode cX9_codesAll 136 = .ok (.aload_n 0, 1) := by decide +kernel
theorem dX9_codesAll_137 : decode cX9_codesAll 137 = .ok (.invokevirtual 169, 3) := by decide +kernel
theorem dX9_codesAll_140 : decode cX9_codesAll 140 = .ok (.return_, 1) := by decide +kernel
theorem dX9_encode_0 : decode cX9_encode 0 = .ok (.aload_n 0, 1) := by decide +kernel
theorem dX9_encode_1 : decode cX9_encode 1 = .ok (.getfield 7, 3) := by decide +kernel
theorem dX9_encode_4 : decode cX9_encode 4 = .ok (.aload_n 0, 1) := by decide +kernel
theorem dX9_encode_5 : decode cX9_encode 5 = .ok (.getfield 13, 3) := by decide +kernel
theorem dX9_encode_8 : decode cX9_encode 8 = .ok (.invokestatic 172, 3) := by decide +kernel
theorem dX9_encode_11 : decode cX9_encode 11 = .ok (.aload_n 0, 1) := by decide +kernel
theorem dX9_encode_12 : decode cX9_encode 12 = .ok (.aload_n 0, 1) := by decide +kernel
theorem dX9_encode_13 : decode cX9_encode 13 = .ok (.getfield 20, 3) := by decide +kernel
theorem dX9_encode_16 : decode cX9_encode 16 = .ok (.aload_n 0, 1) := by decide +kernel
theorem dX9_encode_17 : decode cX9_encode 17 = .ok (.getfield 140, 3) := by decide +kernel
theorem dX9_encode_20 : decode cX9_encode 20 = .ok (.invokevirtual 176, 3) := by decide +kernel
theorem dX9_encode_23 : decode cX9_encode 23 = .ok (.aload_n 0, 1) := by decide +kernel
theorem dX9_encode_24 : decode cX9_encode 24 = .ok (.getfield 73, 3) := by decide +kernel
theorem dX9_encode_27 : decode cX9_encode 27 = .ok (.sipush 400, 3) := by decide +kernel
theorem dX9_encode_30 : decode cX9_encode 30 = .ok (.if_icmp .le 17, 3) := by decide +kernel
theorem dX9_encode_33 : decode cX9_encode 33 = .ok (.aload_n 0, 1) := by decide +kernel
theorem dX9_encode_34 : decode cX9_encode 34 = .ok (.getfield 13, 3) := by decide +kernel
theorem dX9_encode_37 : decode cX9_encode 37 = .ok (.aload_n 0, 1) := by decide +kernel
theorem dX9_encode_38 : decode cX9_encode 38 = .ok (.getfield 7, 3) := by decide +kernel
theorem dX9_encode_41 : decode cX9_encode 41 = .ok (.invokestatic 172, 3) := by decide +kernel
theorem dX9_encode_44 : decode cX9_encode 44 = .ok (.bipush (-3), 2) := by decide +kernel
theorem dX9_encode_46 : decode cX9_encode 46 = .ok (.ireturn, 1) := by decide +kernel
theorem dX9_encode_47 : decode cX9_encode 47 = .ok (.aload_n 0, 1) := by decide +kernel
theorem dX9_encode_48 : decode cX9_encode 48 = .ok (.aload_n 0, 1) := by decide +kernel
theorem dX9_encode_49 : decode cX9_encode 49 = .ok (.getfield 13, 3) := by decide +kernel
theorem dX9_encode_52 : decode cX9_encode 52 = .ok (.invokevirtual 41, 3) := by decide +kernel
theorem dX9_encode_55 : decode cX9_encode 55 = .ok (.iconst 0, 1) := by decide +kernel
theorem dX9_encode_56 : decode cX9_encode 56 = .ok (.istore_n 1, 1) := by decide +kernel
theorem dX9_encode_57 : decode cX9_encode 57 = .ok (.iload_n 1, 1) := by decide +kernel
end
section
theorem dX9_encode_58 : decode cX9_encode 58 = .ok (.sipush 400, 3) := by decide +kernel
theorem dX9_encode_61 : decode cX9_encode 61 = .ok (.if_icmp .ge 37, 3) := by decide +kernel
theorem dX9_encode_64 : decode cX9_encode 64 = .ok (.aload_n 0, 1) := by decide +kernel
theorem dX9_encode_65 : decode cX9_encode 65 = .ok (.getfield 7, 3) := by decide +kernel
theorem dX9_encode_68 : decode cX9_encode 68 = .ok (.sipush 24260, 3) := by decide +kernel
theorem dX9_encode_71 : decode cX9_encode 71 = .ok (.iload_n 1, 1) := by decide +kernel
theorem dX9_encode_72 : decode cX9_encode 72 = .ok (.iadd, 1) := by decide +kernel
theorem dX9_encode_73 : decode cX9_encode 73 = .ok (.iload_n 1, 1) := by decide +kernel
theorem dX9_encode_74 : decode cX9_encode 74 = .ok (.aload_n 0, 1) := by decide +kernel
theorem dX9_encode_75 : decode cX9_encode 75 = .ok (.getfield 73, 3) := by decide +kernel
theorem dX9_encode_78 : decode cX9_encode 78 = .ok (.if_icmp .ge 12, 3) := by decide +kernel
theorem dX9_encode_81 : decode cX9_encode 81 = .ok (.aload_n 0, 1) := by decide +kernel
theorem dX9_encode_82 : decode cX9_encode 82 = .ok (.getfield 23, 3) := by decide +kernel
theorem dX9_encode_85 : decode cX9_encode 85 = .ok (.iload_n 1, 1) := by decide +kernel
theorem dX9_encode_86 : decode cX9_encode 86 = .ok (.iaload, 1) := by decide +kernel
theorem dX9_encode_87 : decode cX9_encode 87 = .ok (.goto 4, 3) := by decide +kernel
theorem dX9_encode_90 : decode cX9_encode 90 = .ok (.iconst 0, 1) := by decide +kernel
theorem dX9_encode_91 : decode cX9_encode 91 = .ok (.iastore, 1) := by decide +kernel
theorem dX9_encode_92 : decode cX9_encode 92 = .ok (.iinc 1 1, 3) := by decide +kernel
theorem dX9_encode_95 : decode cX9_encode 95 = .ok (.goto (-38), 3) := by decide +kernel
theorem dX9_encode_98 : decode cX9_encode 98 = .ok (.aload_n 0, 1) := by decide +kernel
theorem dX9_encode_99 : decode cX9_encode 99 = .ok (.getfield 7, 3) := by decide +kernel
theorem dX9_encode_102 : decode cX9_encode 102 = .ok (.iconst 5, 1) := by decide +kernel
theorem dX9_encode_103 : decode cX9_encode 103 = .ok (.aload_n 0, 1) := by decide +kernel
theorem dX9_encode_104 : decode cX9_encode 104 = .ok (.getfield 73, 3) := by decide +kernel
theorem dX9_encode_107 : decode cX9_encode 107 = .ok (.iastore, 1) := by decide +kernel
theorem dX9_encode_108 : decode cX9_encode 108 = .ok (.aload_n 0, 1) := by decide +kernel
theorem dX9_encode_109 : decode cX9_encode 109 = .ok (.getfield 7, 3) := by decide +kernel
theorem dX9_encode_112 : decode cX9_encode 112 = .ok (.bipush 6, 2) := by decide +kernel
theorem dX9_encode_114 : decode cX9_encode 114 = .ok (.aload_n 0, 1) := by decide +kernel
theorem dX9_encode_115 : decode cX9_encode 115 = .ok (.getfield 76, 3) := by decide +kernel
theorem dX9_encode_118 : decode cX9_encode 118 = .ok (.iastore, 1) := by decide +kernel
theorem dX9_encode_119 : decode cX9_encode 119 = .ok (.aload_n 0, 1) := by decide +kernel
theorem dX9_encode_120 : decode cX9_encode 120 = .ok (.getfield 7, 3) := by decide +kernel
theorem dX9_encode_123 : decode cX9_encode 123 = .ok (.bipush 7, 2) := by decide +kernel
theorem dX9_encode_125 : decode cX9_encode 125 = .ok (.aload_n 0, 1) := by decide +kernel
theorem dX9_encode_126 : decode cX9_encode 126 = .ok (.getfield 140, 3) := by decide +kernel
theorem dX9_encode_129 : decode cX9_encode 129 = .ok (.iconst 1, 1) := by decide +kernel
theorem dX9_encode_130 : decode cX9_encode 130 = .ok (.iadd, 1) := by decide +kernel
theorem dX9_encode_131 : decode cX9_encode 131 = .ok (.iastore, 1) := by decide +kernel
theorem dX9_encode_132 : decode cX9_encode 132 = .ok (.aload_n 0, 1) := by decide +kernel
theorem dX9_encode_133 : decode cX9_encode 133 = .ok (.getfield 7, 3) := by decide +kernel
theorem dX9_encode_136 : decode cX9_encode 136 = .ok (.bipush 8, 2) := by decide +kernel
theorem dX9_encode_138 : decode cX9_encode 138 = .ok (.aload_n 0, 1) := by decide +kernel
theorem dX9_encode_139 : decode cX9_encode 139 = .ok (.getfield 160, 3) := by decide +kernel
theorem dX9_encode_142 : decode cX9_encode 142 = .ok (.iastore, 1) := by decide +kernel
theorem dX9_encode_143 : decode cX9_encode 143 = .ok (.iconst 0, 1) := by decide +kernel
theorem dX9_encode_144 : decode cX9_encode 144 = .ok (.istore_n 1, 1) := by decide +kernel
theorem dX9_encode_145 : decode cX9_encode 145 = .ok (.iload_n 1, 1) := by decide +kernel
theorem dX9_encode_146 : decode cX9_encode 146 = .ok (.sipush 804, 3) := by decide +kernel
theorem dX9_encode_149 : decode cX9_encode 149 = .ok (.if_icmp .ge 25, 3) := by decide +kernel
theorem dX9_encode_152 : decode cX9_encode 152 = .ok (.aload_n 0, 1) := by decide +kernel
theorem dX9_encode_153 : decode cX9_encode 153 = .ok (.getfield 7, 3) := by decide +kernel
theorem dX9_encode_156 : decode cX9_encode 156 = .ok (.sipush 24660, 3) := by decide +kernel
theorem dX9_encode_159 : decode cX9_encode 159 = .ok (.iload_n 1, 1) := by decide +kernel
theorem dX9_encode_160 : decode cX9_encode 160 = .ok (.iadd, 1) := by decide +kernel
theorem dX9_encode_161 : decode cX9_encode 161 = .ok (.aload_n 0, 1) := by decide +kernel
theorem dX9_encode_162 : decode cX9_encode 162 = .ok (.getfield 30, 3) := by decide +kernel
theorem dX9_encode_165 : decode cX9_encode 165 = .ok (.iload_n 1, 1) := by decide +kernel
theorem dX9_encode_166 : decode cX9_encode 166 = .ok (.iaload, 1) := by decide +kernel
theorem dX9_encode_167 : decode cX9_encode 167 = .ok (.iastore, 1) := by decide +kernel
theorem dX9_encode_168 : decode cX9_encode 168 = .ok (.iinc 1 1, 3) := by decide +kernel
theorem dX9_encode_171 : decode cX9_encode 171 = .ok (.goto (-26), 3) := by decide +kernel
theorem dX9_encode_174 : decode cX9_encode 174 = .ok (.aload_n 0, 1) := by decide +kernel
theorem dX9_encode_175 : decode cX9_encode 175 = .ok (.getfield 73, 3) := by decide +kernel
theorem dX9_encode_178 : decode cX9_encode 178 = .ok (.ireturn, 1) := by decide +kernel
theorem dX9_bytes_0 : decode cX9_bytes 0 = .ok (.aload_n 0, 1) := by decide +kernel
theorem dX9_bytes_1 : decode cX9_bytes 1 = .ok (.getfield 7, 3) := by decide +kernel
theorem dX9_bytes_4 : decode cX9_bytes 4 = .ok (.iconst 5, 1) := by decide +kernel
theorem dX9_bytes_5 : decode cX9_bytes 5 = .ok (.iaload, 1) := by decide +kernel
theorem dX9_bytes_6 : decode cX9_bytes 6 = .ok (.ireturn, 1) := by decide +kernel
theorem dX9_codeByte_0 : decode cX9_codeByte 0 = .ok (.iload_n 1, 1) := by decide +kernel
theorem dX9_codeByte_1 : decode cX9_codeByte 1 = .ok (.iconst 0, 1) := by decide +kernel
theorem dX9_codeByte_2 : decode cX9_codeByte 2 = .ok (.aload_n 0, 1) := by decide +kernel
theorem dX9_codeByte_3 : decode cX9_codeByte 3 = .ok (.getfield 7, 3) := by decide +kernel
theorem dX9_codeByte_6 : decode cX9_codeByte 6 = .ok (.iconst 5, 1) := by decide +kernel
theorem dX9_codeByte_7 : decode cX9_codeByte 7 = .ok (.iaload, 1) := by decide +kernel
theorem dX9_codeByte_8 : decode cX9_codeByte 8 = .ok (.iconst 1, 1) := by decide +kernel
theorem dX9_codeByte_9 : decode cX9_codeByte 9 = .ok (.isub, 1) := by decide +kernel
theorem dX9_codeByte_10 : decode cX9_codeByte 10 = .ok (.invokestatic 130, 3) := by decide +kernel
theorem dX9_codeByte_13 : decode cX9_codeByte 13 = .ok (.ifCond .eq 16, 3) := by decide +kernel
theorem dX9_codeByte_16 : decode cX9_codeByte 16 = .ok (.aload_n 0, 1) := by decide +kernel
theorem dX9_codeByte_17 : decode cX9_codeByte 17 = .ok (.getfield 7, 3) := by decide +kernel
theorem dX9_codeByte_20 : decode cX9_codeByte 20 = .ok (.sipush 24260, 3) := by decide +kernel
theorem dX9_codeByte_23 : decode cX9_codeByte 23 = .ok (.iload_n 1, 1) := by decide +kernel
theorem dX9_codeByte_24 : decode cX9_codeByte 24 = .ok (.iadd, 1) := by decide +kernel
theorem dX9_codeByte_25 : decode cX9_codeByte 25 = .ok (.iaload, 1) := by decide +kernel
theorem dX9_codeByte_26 : decode cX9_codeByte 26 = .ok (.goto 4, 3) := by decide +kernel
theorem dX9_codeByte_29 : decode cX9_codeByte 29 = .ok (.iconst (-1), 1) := by decide +kernel
theorem dX9_codeByte_30 : decode cX9_codeByte 30 = .ok (.ireturn, 1) := by decide +kernel
theorem dX9_longestCarry_0 : decode cX9_longestCarry 0 = .ok (.aload_n 0, 1) := by decide +kernel
theorem dX9_longestCarry_1 : decode cX9_longestCarry 1 = .ok (.getfield 7, 3) := by decide +kernel
theorem dX9_longestCarry_4 : decode cX9_longestCarry 4 = .ok (.bipush 6, 2) := by decide +kernel
theorem dX9_longestCarry_6 : decode cX9_longestCarry 6 = .ok (.iaload, 1) := by decide +kernel
theorem dX9_longestCarry_7 : decode cX9_longestCarry 7 = .ok (.ireturn, 1) := by decide +kernel
theorem dX9_nextByte_0 : decode cX9_nextByte 0 = .ok (.aload_n 0, 1) := by decide +kernel
theorem dX9_nextByte_1 : decode cX9_nextByte 1 = .ok (.getfield 180, 3) := by decide +kernel
theorem dX9_nextByte_4 : decode cX9_nextByte 4 = .ok (.aload_n 0, 1) := by decide +kernel
theorem dX9_nextByte_5 : decode cX9_nextByte 5 = .ok (.getfield 7, 3) := by decide +kernel
theorem dX9_nextByte_8 : decode cX9_nextByte 8 = .ok (.iconst 5, 1) := by decide +kernel
theorem dX9_nextByte_9 : decode cX9_nextByte 9 = .ok (.iaload, 1) := by decide +kernel
theorem dX9_nextByte_10 : decode cX9_nextByte 10 = .ok (.if_icmp .ge 19, 3) := by decide +kernel
theorem dX9_nextByte_13 : decode cX9_nextByte 13 = .ok (.aload_n 0, 1) := by decide +kernel
theorem dX9_nextByte_14 : decode cX9_nextByte 14 = .ok (.getfield 7, 3) := by decide +kernel
theorem dX9_nextByte_17 : decode cX9_nextByte 17 = .ok (.sipush 24260, 3) := by decide +kernel
theorem dX9_nextByte_20 : decode cX9_nextByte 20 = .ok (.aload_n 0, 1) := by decide +kernel
theorem dX9_nextByte_21 : decode cX9_nextByte 21 = .ok (.getfield 180, 3) := by decide +kernel
theorem dX9_nextByte_24 : decode cX9_nextByte 24 = .ok (.iadd, 1) := by decide +kernel
theorem dX9_nextByte_25 : decode cX9_nextByte 25 = .ok (.iaload, 1) := by decide +kernel
theorem dX9_nextByte_26 : decode cX9_nextByte 26 = .ok (.goto 4, 3) := by decide +kernel
theorem dX9_nextByte_29 : decode cX9_nextByte 29 = .ok (.iconst 0, 1) := by decide +kernel
theorem dX9_nextByte_30 : decode cX9_nextByte 30 = .ok (.istore_n 1, 1) := by decide +kernel
theorem dX9_nextByte_31 : decode cX9_nextByte 31 = .ok (.aload_n 0, 1) := by decide +kernel
theorem dX9_nextByte_32 : decode cX9_nextByte 32 = .ok (.dup, 1) := by decide +kernel
theorem dX9_nextByte_33 : decode cX9_nextByte 33 = .ok (.getfield 180, 3) := by decide +kernel
theorem dX9_nextByte_36 : decode cX9_nextByte 36 = .ok (.iconst 1, 1) := by decide +kernel
theorem dX9_nextByte_37 : decode cX9_nextByte 37 = .ok (.iadd, 1) := by decide +kernel
theorem dX9_nextByte_38 : decode cX9_nextByte 38 = .ok (.putfield 180, 3) := by decide +kernel
theorem dX9_nextByte_41 : decode cX9_nextByte 41 = .ok (.iload_n 1, 1) := by decide +kernel
theorem dX9_nextByte_42 : decode cX9_nextByte 42 = .ok (.ireturn, 1) := by decide +kernel
theorem dX9_target_0 : decode cX9_target 0 = .ok (.aload_n 0, 1) := by decide +kernel
theorem dX9_target_1 : decode cX9_target 1 = .ok (.getfield 183, 3) := by decide +kernel
theorem dX9_target_4 : decode cX9_target 4 = .ok (.aload_n 0, 1) := by decide +kernel
theorem dX9_target_5 : decode cX9_target 5 = .ok (.getfield 70, 3) := by decide +kernel
theorem dX9_target_8 : decode cX9_target 8 = .ok (.iload_n 1, 1) := by decide +kernel
theorem dX9_target_9 : decode cX9_target 9 = .ok (.i2l, 1) := by decide +kernel
theorem dX9_target_10 : decode cX9_target 10 = .ok (.ldiv, 1) := by decide +kernel
theorem dX9_target_11 : decode cX9_target 11 = .ok (.ldiv, 1) := by decide +kernel
theorem dX9_target_12 : decode cX9_target 12 = .ok (.lstore_n 2, 1) := by decide +kernel
theorem dX9_target_13 : decode cX9_target 13 = .ok (.lload_n 2, 1) := by decide +kernel
theorem dX9_target_14 : decode cX9_target 14 = .ok (.iload_n 1, 1) := by decide +kernel
theorem dX9_target_15 : decode cX9_target 15 = .ok (.i2l, 1) := by decide +kernel
theorem dX9_target_16 : decode cX9_target 16 = .ok (.lconst 1, 1) := by decide +kernel
theorem dX9_target_17 : decode cX9_target 17 = .ok (.lsub, 1) := by decide +kernel
theorem dX9_target_18 : decode cX9_target 18 = .ok (.lcmp, 1) := by decide +kernel
theorem dX9_target_19 : decode cX9_target 19 = .ok (.ifCond .le 9, 3) := by decide +kernel
theorem dX9_target_22 : decode cX9_target 22 = .ok (.iload_n 1, 1) := by decide +kernel
theorem dX9_target_23 : decode cX9_target 23 = .ok (.iconst 1, 1) := by decide +kernel
theorem dX9_target_24 : decode cX9_target 24 = .ok (.isub, 1) := by decide +kernel
theorem dX9_target_25 : decode cX9_target 25 = .ok (.goto 5, 3) := by decide +kernel
theorem dX9_target_28 : decode cX9_target 28 = .ok (.lload_n 2, 1) := by decide +kernel
theorem dX9_target_29 : decode cX9_target 29 = .ok (.l2i, 1) := by decide +kernel
theorem dX9_target_30 : decode cX9_target 30 = .ok (.ireturn, 1) := by decide +kernel
theorem dX9_reads_0 : decode cX9_reads 0 = .ok (.aload_n 0, 1) := by decide +kernel
theorem dX9_reads_1 : decode cX9_reads 1 = .ok (.getfield 70, 3) := by decide +kernel
theorem dX9_reads_4 : decode cX9_reads 4 = .ok (.iload_n 3, 1) := by decide +kernel
theorem dX9_reads_5 : decode cX9_reads 5 = .ok (.i2l, 1) := by decide +kernel
theorem dX9_reads_6 : decode cX9_reads 6 = .ok (.ldiv, 1) := by decide +kernel
theorem dX9_reads_7 : decode cX9_reads 7 = .ok (.lstore 4, 2) := by decide +kernel
theorem dX9_reads_9 : decode cX9_reads 9 = .ok (.aload_n 0, 1) := by decide +kernel
theorem dX9_reads_10 : decode cX9_reads 10 = .ok (.dup, 1) := by decide +kernel
theorem dX9_reads_11 : decode cX9_reads 11 = .ok (.getfield 183, 3) := by decide +kernel
theorem dX9_reads_14 : decode cX9_reads 14 = .ok (.lload 4, 2) := by decide +kernel
theorem dX9_reads_16 : decode cX9_reads 16 = .ok (.iload_n 1, 1) := by decide +kernel
theorem dX9_reads_17 : decode cX9_reads 17 = .ok (.i2l, 1) := by decide +kernel
theorem dX9_reads_18 : decode cX9_reads 18 = .ok (.lmul, 1) := by decide +kernel
theorem dX9_reads_19 : decode cX9_reads 19 = .ok (.lsub, 1) := by decide +kernel
theorem dX9_reads_20 : decode cX9_reads 20 = .ok (.putfield 183, 3) := by decide +kernel
theorem dX9_reads_23 : decode cX9_reads 23 = .ok (.aload_n 0, 1) := by decide +kernel
theorem dX9_reads_24 : decode cX9_reads 24 = .ok (.iload_n 2, 1) := by decide +kernel
theorem dX9_reads_25 : decode cX9_reads 25 = .ok (.iload_n 3, 1) := by decide +kernel
theorem dX9_reads_26 : decode cX9_reads 26 = .ok (.if_icmp .ge 13, 3) := by decide +kernel
theorem dX9_reads_29 : decode cX9_reads 29 = .ok (.lload 4, 2) := by decide +kernel
theorem dX9_reads_31 : decode cX9_reads 31 = .ok (.iload_n 2, 1) := by decide +kernel
theorem dX9_reads_32 : decode cX9_reads 32 = .ok (.iload_n 1, 1) := by decide +kernel
theorem dX9_reads_33 : decode cX9_reads 33 = .ok (.isub, 1) := by decide +kernel
theorem dX9_reads_34 : decode cX9_reads 34 = .ok (.i2l, 1) := by decide +kernel
theorem dX9_reads_35 : decode cX9_reads 35 = .ok (.lmul, 1) := by decide +kernel
theorem dX9_reads_36 : decode cX9_reads 36 = .ok (.goto 13, 3) := by decide +kernel
theorem dX9_reads_39 : decode cX9_reads 39 = .ok (.aload_n 0, 1) := by decide +kernel
theorem dX9_reads_40 : decode cX9_reads 40 = .ok (.getfield 70, 3) := by decide +kernel
theorem dX9_reads_43 : decode cX9_reads 43 = .ok (.lload 4, 2) := by decide +kernel
theorem dX9_reads_45 : decode cX9_reads 45 = .ok (.iload_n 1, 1) := by decide +kernel
theorem dX9_reads_46 : decode cX9_reads 46 = .ok (.i2l, 1) := by decide +kernel
theorem dX9_reads_47 : decode cX9_reads 47 = .ok (.lmul, 1) := by decide +kernel
theorem dX9_reads_48 : decode cX9_reads 48 = .ok (.lsub, 1) := by decide +kernel
theorem dX9_reads_49 : decode cX9_reads 49 = .ok (.putfield 70, 3) := by decide +kernel
theorem dX9_reads_52 : decode cX9_reads 52 = .ok (.aload_n 0, 1) := by decide +kernel
theorem dX9_reads_53 : decode cX9_reads 53 = .ok (.getfield 70, 3) := by decide +kernel
theorem dX9_reads_56 : decode cX9_reads 56 = .ok (.ldc2_w 82, 3) := by decide +kernel
theorem dX9_reads_59 : decode cX9_reads 59 = .ok (.lcmp, 1) := by decide +kernel
theorem dX9_reads_60 : decode cX9_reads 60 = .ok (.ifCond .gt 40, 3) := by decide +kernel
theorem dX9_reads_63 : decode cX9_reads 63 = .ok (.aload_n 0, 1) := by decide +kernel
theorem dX9_reads_64 : decode cX9_reads 64 = .ok (.aload_n 0, 1) := by decide +kernel
theorem dX9_reads_65 : decode cX9_reads 65 = .ok (.getfield 183, 3) := by decide +kernel
theorem dX9_reads_68 : decode cX9_reads 68 = .ok (.ldc2_w 84, 3) := by decide +kernel
theorem dX9_reads_71 : decode cX9_reads 71 = .ok (.lmul, 1) := by decide +kernel
theorem dX9_reads_72 : decode cX9_reads 72 = .ok (.aload_n 0, 1) := by decide +kernel
theorem dX9_reads_73 : decode cX9_reads 73 = .ok (.invokevirtual 186, 3) := by decide +kernel
theorem dX9_reads_76 : decode cX9_reads 76 = .ok (.i2l, 1) := by decide +kernel
theorem dX9_reads_77 : decode cX9_reads 77 = .ok (.ladd, 1) := by decide +kernel
theorem dX9_reads_78 : decode cX9_reads 78 = .ok (.ldc2_w 68, 3) := by decide +kernel
theorem dX9_reads_81 : decode cX9_reads 81 = .ok (.lrem, 1) := by decide +kernel
theorem dX9_reads_82 : decode cX9_reads 82 = .ok (.putfield 183, 3) := by decide +kernel
theorem dX9_reads_85 : decode cX9_reads 85 = .ok (.aload_n 0, 1) := by decide +kernel
theorem dX9_reads_86 : decode cX9_reads 86 = .ok (.dup, 1) := by decide +kernel
theorem dX9_reads_87 : decode cX9_reads 87 = .ok (.getfield 70, 3) := by decide +kernel
theorem dX9_reads_90 : decode cX9_reads 90 = .ok (.ldc2_w 84, 3) := by decide +kernel
theorem dX9_reads_93 : decode cX9_reads 93 = .ok (.lmul, 1) := by decide +kernel
theorem dX9_reads_94 : decode cX9_reads 94 = .ok (.putfield 70, 3) := by decide +kernel
theorem dX9_reads_97 : decode cX9_reads 97 = .ok (.goto (-45), 3) := by decide +kernel
theorem dX9_reads_100 : decode cX9_reads 100 = .ok (.return_, 1) := by decide +kernel
theorem dX9_decodes_0 : decode cX9_decodes 0 = .ok (.aload_n 0, 1) := by decide +kernel
theorem dX9_decodes_1 : decode cX9_decodes 1 = .ok (.invokevirtual 113, 3) := by decide +kernel
theorem dX9_decodes_4 : decode cX9_decodes 4 = .ok (.iload_n 2, 1) := by decide +kernel
theorem dX9_decodes_5 : decode cX9_decodes 5 = .ok (.aload_n 0, 1) := by decide +kernel
theorem dX9_decodes_6 : decode cX9_decodes 6 = .ok (.getfield 7, 3) := by decide +kernel
theorem dX9_decodes_9 : decode cX9_decodes 9 = .ok (.iconst 0, 1) := by decide +kernel
theorem dX9_decodes_10 : decode cX9_decodes 10 = .ok (.iaload, 1) := by decide +kernel
theorem dX9_decodes_11 : decode cX9_decodes 11 = .ok (.if_icmp .ge 7, 3) := by decide +kernel
theorem dX9_decodes_14 : decode cX9_decodes 14 = .ok (.iload_n 2, 1) := by decide +kernel
theorem dX9_decodes_15 : decode cX9_decodes 15 = .ok (.goto 9, 3) := by decide +kernel
theorem dX9_decodes_18 : decode cX9_decodes 18 = .ok (.aload_n 0, 1) := by decide +kernel
theorem dX9_decodes_19 : decode cX9_decodes 19 = .ok (.getfield 7, 3) := by decide +kernel
theorem dX9_decodes_22 : decode cX9_decodes 22 = .ok (.iconst 0, 1) := by decide +kernel
theorem dX9_decodes_23 : decode cX9_decodes 23 = .ok (.iaload, 1) := by decide +kernel
theorem dX9_decodes_24 : decode cX9_decodes 24 = .ok (.istore_n 3, 1) := by decide +kernel
theorem dX9_decodes_25 : decode cX9_decodes 25 = .ok (.iload_n 3, 1) := by decide +kernel
theorem dX9_decodes_26 : decode cX9_decodes 26 = .ok (.ifCond .lt 140, 3) := by decide +kernel
theorem dX9_decodes_29 : decode cX9_decodes 29 = .ok (.aload_n 0, 1) := by decide +kernel
theorem dX9_decodes_30 : decode cX9_decodes 30 = .ok (.aload_n 1, 1) := by decide +kernel
theorem dX9_decodes_31 : decode cX9_decodes 31 = .ok (.iload_n 2, 1) := by decide +kernel
theorem dX9_decodes_32 : decode cX9_decodes 32 = .ok (.iload_n 3, 1) := by decide +kernel
theorem dX9_decodes_33 : decode cX9_decodes 33 = .ok (.invokevirtual 57, 3) := by decide +kernel
theorem dX9_decodes_36 : decode cX9_decodes 36 = .ok (.istore 4, 2) := by decide +kernel
theorem dX9_decodes_38 : decode cX9_decodes 38 = .ok (.iload 4, 2) := by decide +kernel
theorem dX9_decodes_40 : decode cX9_decodes 40 = .ok (.ifCond .lt 120, 3) := by decide +kernel
theorem dX9_decodes_43 : decode cX9_decodes 43 = .ok (.aload_n 0, 1) := by decide +kernel
theorem dX9_decodes_44 : decode cX9_decodes 44 = .ok (.iload 4, 2) := by decide +kernel
theorem dX9_decodes_46 : decode cX9_decodes 46 = .ok (.bipush 96, 2) := by decide +kernel
theorem dX9_decodes_48 : decode cX9_decodes 48 = .ok (.invokevirtual 116, 3) := by decide +kernel
theorem dX9_decodes_51 : decode cX9_decodes 51 = .ok (.istore 5, 2) := by decide +kernel
theorem dX9_decodes_53 : decode cX9_decodes 53 = .ok (.aload_n 0, 1) := by decide +kernel
theorem dX9_decodes_54 : decode cX9_decodes 54 = .ok (.iload 4, 2) := by decide +kernel
theorem dX9_decodes_56 : decode cX9_decodes 56 = .ok (.invokevirtual 119, 3) := by decide +kernel
theorem dX9_decodes_59 : decode cX9_decodes 59 = .ok (.istore 6, 2) := by decide +kernel
theorem dX9_decodes_61 : decode cX9_decodes 61 = .ok (.aload_n 0, 1) := by decide +kernel
theorem dX9_decodes_62 : decode cX9_decodes 62 = .ok (.iload 5, 2) := by decide +kernel
theorem dX9_decodes_64 : decode cX9_decodes 64 = .ok (.iload 6, 2) := by decide +kernel
theorem dX9_decodes_66 : decode cX9_decodes 66 = .ok (.iadd, 1) := by decide +kernel
theorem dX9_decodes_67 : decode cX9_decodes 67 = .ok (.invokevirtual 190, 3) := by decide +kernel
theorem dX9_decodes_70 : decode cX9_decodes 70 = .ok (.istore 7, 2) := by decide +kernel
theorem dX9_decodes_72 : decode cX9_decodes 72 = .ok (.iload 7, 2) := by decide +kernel
theorem dX9_decodes_74 : decode cX9_decodes 74 = .ok (.iload 5, 2) := by decide +kernel
theorem dX9_decodes_76 : decode cX9_decodes 76 = .ok (.if_icmp .ge 62, 3) := by decide +kernel
theorem dX9_decodes_79 : decode cX9_decodes 79 = .ok (.iconst 0, 1) := by decide +kernel
theorem dX9_decodes_80 : decode cX9_decodes 80 = .ok (.istore 8, 2) := by decide +kernel
theorem dX9_decodes_82 : decode cX9_decodes 82 = .ok (.aload_n 0, 1) := by decide +kernel
theorem dX9_decodes_83 : decode cX9_decodes 83 = .ok (.iload 4, 2) := by decide +kernel
theorem dX9_decodes_85 : decode cX9_decodes 85 = .ok (.iload 8, 2) := by decide +kernel
theorem dX9_decodes_87 : decode cX9_decodes 87 = .ok (.iconst 1, 1) := by decide +kernel
theorem dX9_decodes_88 : decode cX9_decodes 88 = .ok (.iadd, 1) := by decide +kernel
theorem dX9_decodes_89 : decode cX9_decodes 89 = .ok (.invokevirtual 116, 3) := by decide +kernel
theorem dX9_decodes_92 : decode cX9_decodes 92 = .ok (.iload 7, 2) := by decide +kernel
theorem dX9_decodes_94 : decode cX9_decodes 94 = .ok (.if_icmp .gt 9, 3) := by decide +kernel
theorem dX9_decodes_97 : decode cX9_decodes 97 = .ok (.iinc 8 1, 3) := by decide +kernel
theorem dX9_decodes_100 : decode cX9_decodes 100 = .ok (.goto (-18), 3) := by decide +kernel
theorem dX9_decodes_103 : decode cX9_decodes 103 = .ok (.aload_n 0, 1) := by decide +kernel
theorem dX9_decodes_104 : decode cX9_decodes 104 = .ok (.iload 4, 2) := by decide +kernel
theorem dX9_decodes_106 : decode cX9_decodes 106 = .ok (.iload 8, 2) := by decide +kernel
theorem dX9_decodes_108 : decode cX9_decodes 108 = .ok (.invokevirtual 116, 3) := by decide +kernel
theorem dX9_decodes_111 : decode cX9_decodes 111 = .ok (.istore 9, 2) := by decide +kernel
theorem dX9_decodes_113 : decode cX9_decodes 113 = .ok (.aload_n 0, 1) := by decide +kernel
theorem dX9_decodes_114 : decode cX9_decodes 114 = .ok (.iload 9, 2) := by decide +kernel
theorem dX9_decodes_116 : decode cX9_decodes 116 = .ok (.iload 9, 2) := by decide +kernel
theorem dX9_decodes_118 : decode cX9_decodes 118 = .ok (.aload_n 0, 1) := by decide +kernel
theorem dX9_decodes_119 : decode cX9_decodes 119 = .ok (.iload 4, 2) := by decide +kernel
theorem dX9_decodes_121 : decode cX9_decodes 121 = .ok (.iload 8, 2) := by decide +kernel
theorem dX9_decodes_123 : decode cX9_decodes 123 = .ok (.invokevirtual 49, 3) := by decide +kernel
theorem dX9_decodes_126 : decode cX9_decodes 126 = .ok (.iadd, 1) := by decide +kernel
theorem dX9_decodes_127 : decode cX9_decodes 127 = .ok (.iload 5, 2) := by decide +kernel
theorem dX9_decodes_129 : decode cX9_decodes 129 = .ok (.iload 6, 2) := by decide +kernel
theorem dX9_decodes_131 : decode cX9_decodes 131 = .ok (.iadd, 1) := by decide +kernel
theorem dX9_decodes_132 : decode cX9_decodes 132 = .ok (.invokevirtual 193, 3) := by decide +kernel
theorem dX9_decodes_135 : decode cX9_decodes 135 = .ok (.iload 8, 2) := by decide +kernel
theorem dX9_decodes_137 : decode cX9_decodes 137 = .ok (.ireturn, 1) := by decide +kernel
theorem dX9_decodes_138 : decode cX9_decodes 138 = .ok (.aload_n 0, 1) := by decide +kernel
theorem dX9_decodes_139 : decode cX9_decodes 139 = .ok (.iload 5, 2) := by decide +kernel
theorem dX9_decodes_141 : decode cX9_decodes 141 = .ok (.iload 5, 2) := by decide +kernel
theorem dX9_decodes_143 : decode cX9_decodes 143 = .ok (.iload 6, 2) := by decide +kernel
theorem dX9_decodes_145 : decode cX9_decodes 145 = .ok (.iadd, 1) := by decide +kernel
theorem dX9_decodes_146 : decode cX9_decodes 146 = .ok (.iload 5, 2) := by decide +kernel
theorem dX9_decodes_148 : decode cX9_decodes 148 = .ok (.iload 6, 2) := by decide +kernel
theorem dX9_decodes_150 : decode cX9_decodes 150 = .ok (.iadd, 1) := by decide +kernel
theorem dX9_decodes_151 : decode cX9_decodes 151 = .ok (.invokevirtual 193, 3) := by decide +kernel
theorem dX9_decodes_154 : decode cX9_decodes 154 = .ok (.aload_n 0, 1) := by decide +kernel
theorem dX9_decodes_155 : decode cX9_decodes 155 = .ok (.iload 4, 2) := by decide +kernel
theorem dX9_decodes_157 : decode cX9_decodes 157 = .ok (.invokevirtual 126, 3) := by decide +kernel
theorem dX9_decodes_160 : decode cX9_decodes 160 = .ok (.iinc 3 (-1), 3) := by decide +kernel
theorem dX9_decodes_163 : decode cX9_decodes 163 = .ok (.goto (-138), 3) := by decide +kernel
theorem dX9_decodes_166 : decode cX9_decodes 166 = .ok (.iconst 0, 1) := by decide +kernel
theorem dX9_decodes_167 : decode cX9_decodes 167 = .ok (.istore_n 3, 1) := by decide +kernel
theorem dX9_decodes_168 : decode cX9_decodes 168 = .ok (.iconst 0, 1) := by decide +kernel
theorem dX9_decodes_169 : decode cX9_decodes 169 = .ok (.istore 4, 2) := by decide +kernel
theorem dX9_decodes_171 : decode cX9_decodes 171 = .ok (.iload 4, 2) := by decide +kernel
theorem dX9_decodes_173 : decode cX9_decodes 173 = .ok (.bipush 96, 2) := by decide +kernel
theorem dX9_decodes_175 : decode cX9_decodes 175 = .ok (.if_icmp .ge 27, 3) := by decide +kernel
theorem dX9_decodes_178 : decode cX9_decodes 178 = .ok (.iload_n 3, 1) := by decide +kernel
theorem dX9_decodes_179 : decode cX9_decodes 179 = .ok (.aload_n 0, 1) := by decide +kernel
theorem dX9_decodes_180 : decode cX9_decodes 180 = .ok (.getfield 26, 3) := by decide +kernel
theorem dX9_decodes_183 : decode cX9_decodes 183 = .ok (.iload 4, 2) := by decide +kernel
theorem dX9_decodes_185 : decode cX9_decodes 185 = .ok (.baload, 1) := by decide +kernel
theorem dX9_decodes_186 : decode cX9_decodes 186 = .ok (.ifCond .eq 7, 3) := by decide +kernel
theorem dX9_decodes_189 : decode cX9_decodes 189 = .ok (.iconst 0, 1) := by decide +kernel
theorem dX9_decodes_190 : decode cX9_decodes 190 = .ok (.goto 4, 3) := by decide +kernel
theorem dX9_decodes_193 : decode cX9_decodes 193 = .ok (.iconst 1, 1) := by decide +kernel
theorem dX9_decodes_194 : decode cX9_decodes 194 = .ok (.iadd, 1) := by decide +kernel
theorem dX9_decodes_195 : decode cX9_decodes 195 = .ok (.istore_n 3, 1) := by decide +kernel
theorem dX9_decodes_196 : decode cX9_decodes 196 = .ok (.iinc 4 1, 3) := by decide +kernel
theorem dX9_decodes_199 : decode cX9_decodes 199 = .ok (.goto (-28), 3) := by decide +kernel
theorem dX9_decodes_202 : decode cX9_decodes 202 = .ok (.iload_n 3, 1) := by decide +kernel
theorem dX9_decodes_203 : decode cX9_decodes 203 = .ok (.ifCond .ne 5, 3) := by decide +kernel
theorem dX9_decodes_206 : decode cX9_decodes 206 = .ok (.iconst (-1), 1) := by decide +kernel
theorem dX9_decodes_207 : decode cX9_decodes 207 = .ok (.ireturn, 1) := by decide +kernel
theorem dX9_decodes_208 : decode cX9_decodes 208 = .ok (.aload_n 0, 1) := by decide +kernel
theorem dX9_decodes_209 : decode cX9_decodes 209 = .ok (.iload_n 3, 1) := by decide +kernel
theorem dX9_decodes_210 : decode cX9_decodes 210 = .ok (.invokevirtual 190, 3) := by decide +kernel
theorem dX9_decodes_213 : decode cX9_decodes 213 = .ok (.istore 4, 2) := by decide +kernel
theorem dX9_decodes_215 : decode cX9_decodes 215 = .ok (.aload_n 0, 1) := by decide +kernel
theorem dX9_decodes_216 : decode cX9_decodes 216 = .ok (.iload 4, 2) := by decide +kernel
theorem dX9_decodes_218 : decode cX9_decodes 218 = .ok (.iload 4, 2) := by decide +kernel
theorem dX9_decodes_220 : decode cX9_decodes 220 = .ok (.iconst 1, 1) := by decide +kernel
theorem dX9_decodes_221 : decode cX9_decodes 221 = .ok (.iadd, 1) := by decide +kernel
theorem dX9_decodes_222 : decode cX9_decodes 222 = .ok (.iload_n 3, 1) := by decide +kernel
theorem dX9_decodes_223 : decode cX9_decodes 223 = .ok (.invokevirtual 193, 3) := by decide +kernel
theorem dX9_decodes_226 : decode cX9_decodes 226 = .ok (.iload 4, 2) := by decide +kernel
theorem dX9_decodes_228 : decode cX9_decodes 228 = .ok (.istore 5, 2) := by decide +kernel
theorem dX9_decodes_230 : decode cX9_decodes 230 = .ok (.iconst 0, 1) := by decide +kernel
theorem dX9_decodes_231 : decode cX9_decodes 231 = .ok (.istore 6, 2) := by decide +kernel
theorem dX9_decodes_233 : decode cX9_decodes 233 = .ok (.aload_n 0, 1) := by decide +kernel
theorem dX9_decodes_234 : decode cX9_decodes 234 = .ok (.getfield 26, 3) := by decide +kernel
theorem dX9_decodes_237 : decode cX9_decodes 237 = .ok (.iload 6, 2) := by decide +kernel
theorem dX9_decodes_239 : decode cX9_decodes 239 = .ok (.baload, 1) := by decide +kernel
theorem dX9_decodes_240 : decode cX9_decodes 240 = .ok (.ifCond .ne 8, 3) := by decide +kernel
theorem dX9_decodes_243 : decode cX9_decodes 243 = .ok (.iload 5, 2) := by decide +kernel
theorem dX9_decodes_245 : decode cX9_decodes 245 = .ok (.ifCond .le 29, 3) := by decide +kernel
theorem dX9_decodes_248 : decode cX9_decodes 248 = .ok (.iload 5, 2) := by decide +kernel
theorem dX9_decodes_250 : decode cX9_decodes 250 = .ok (.aload_n 0, 1) := by decide +kernel
theorem dX9_decodes_251 : decode cX9_decodes 251 = .ok (.getfield 26, 3) := by decide +kernel
theorem dX9_decodes_254 : decode cX9_decodes 254 = .ok (.iload 6, 2) := by decide +kernel
theorem dX9_decodes_256 : decode cX9_decodes 256 = .ok (.baload, 1) := by decide +kernel
theorem dX9_decodes_257 : decode cX9_decodes 257 = .ok (.ifCond .eq 7, 3) := by decide +kernel
theorem dX9_decodes_260 : decode cX9_decodes 260 = .ok (.iconst 0, 1) := by decide +kernel
theorem dX9_decodes_261 : decode cX9_decodes 261 = .ok (.goto 4, 3) := by decide +kernel
theorem dX9_decodes_264 : decode cX9_decodes 264 = .ok (.iconst 1, 1) := by decide +kernel
theorem dX9_decodes_265 : decode cX9_decodes 265 = .ok (.isub, 1) := by decide +kernel
theorem dX9_decodes_266 : decode cX9_decodes 266 = .ok (.istore 5, 2) := by decide +kernel
theorem dX9_decodes_268 : decode cX9_decodes 268 = .ok (.iinc 6 1, 3) := by decide +kernel
theorem dX9_decodes_271 : decode cX9_decodes 271 = .ok (.goto (-38), 3) := by decide +kernel
theorem dX9_decodes_274 : decode cX9_decodes 274 = .ok (.iload 6, 2) := by decide +kernel
theorem dX9_decodes_276 : decode cX9_decodes 276 = .ok (.ireturn, 1) := by decide +kernel
theorem dX9_decodesAll_0 : decode cX9_decodesAll 0 = .ok (.aload_n 0, 1) := by decide +kernel
theorem dX9_decodesAll_1 : decode cX9_decodesAll 1 = .ok (.lconst 0, 1) := by decide +kernel
theorem dX9_decodesAll_2 : decode cX9_decodesAll 2 = .ok (.putfield 183, 3) := by decide +kernel
theorem dX9_decodesAll_5 : decode cX9_decodesAll 5 = .ok (.aload_n 0, 1) := by decide +kernel
theorem dX9_decodesAll_6 : decode cX9_decodesAll 6 = .ok (.iconst 0, 1) := by decide +kernel
theorem dX9_decodesAll_7 : decode cX9_decodesAll 7 = .ok (.putfield 180, 3) := by decide +kernel
theorem dX9_decodesAll_10 : decode cX9_decodesAll 10 = .ok (.aload_n 0, 1) := by decide +kernel
theorem dX9_decodesAll_11 : decode cX9_decodesAll 11 = .ok (.ldc2_w 68, 3) := by decide +kernel
theorem dX9_decodesAll_14 : decode cX9_decodesAll 14 = .ok (.putfield 70, 3) := by decide +kernel
theorem dX9_decodesAll_17 : decode cX9_decodesAll 17 = .ok (.iconst 0, 1) := by decide +kernel
theorem dX9_decodesAll_18 : decode cX9_decodesAll 18 = .ok (.istore_n 1, 1) := by decide +kernel
theorem dX9_decodesAll_19 : decode cX9_decodesAll 19 = .ok (.iload_n 1, 1) := by decide +kernel
theorem dX9_decodesAll_20 : decode cX9_decodesAll 20 = .ok (.iconst 4, 1) := by decide +kernel
theorem dX9_decodesAll_21 : decode cX9_decodesAll 21 = .ok (.if_icmp .ge 27, 3) := by decide +kernel
theorem dX9_decodesAll_24 : decode cX9_decodesAll 24 = .ok (.aload_n 0, 1) := by decide +kernel
theorem dX9_decodesAll_25 : decode cX9_decodesAll 25 = .ok (.aload_n 0, 1) := by decide +kernel
theorem dX9_decodesAll_26 : decode cX9_decodesAll 26 = .ok (.getfield 183, 3) := by decide +kernel
theorem dX9_decodesAll_29 : decode cX9_decodesAll 29 = .ok (.ldc2_w 84, 3) := by decide +kernel
theorem dX9_decodesAll_32 : decode cX9_decodesAll 32 = .ok (.lmul, 1) := by decide +kernel
theorem dX9_decodesAll_33 : decode cX9_decodesAll 33 = .ok (.aload_n 0, 1) := by decide +kernel
theorem dX9_decodesAll_34 : decode cX9_decodesAll 34 = .ok (.invokevirtual 186, 3) := by decide +kernel
theorem dX9_decodesAll_37 : decode cX9_decodesAll 37 = .ok (.i2l, 1) := by decide +kernel
theorem dX9_decodesAll_38 : decode cX9_decodesAll 38 = .ok (.ladd, 1) := by decide +kernel
theorem dX9_decodesAll_39 : decode cX9_decodesAll 39 = .ok (.putfield 183, 3) := by decide +kernel
theorem dX9_decodesAll_42 : decode cX9_decodesAll 42 = .ok (.iinc 1 1, 3) := by decide +kernel
theorem dX9_decodesAll_45 : decode cX9_decodesAll 45 = .ok (.goto (-26), 3) := by decide +kernel
theorem dX9_decodesAll_48 : decode cX9_decodesAll 48 = .ok (.aload_n 0, 1) := by decide +kernel
theorem dX9_decodesAll_49 : decode cX9_decodesAll 49 = .ok (.iconst 0, 1) := by decide +kernel
theorem dX9_decodesAll_50 : decode cX9_decodesAll 50 = .ok (.putfield 196, 3) := by decide +kernel
theorem dX9_decodesAll_53 : decode cX9_decodesAll 53 = .ok (.aload_n 0, 1) := by decide +kernel
theorem dX9_decodesAll_54 : decode cX9_decodesAll 54 = .ok (.aload_n 0, 1) := by decide +kernel
theorem dX9_decodesAll_55 : decode cX9_decodesAll 55 = .ok (.getfield 33, 3) := by decide +kernel
theorem dX9_decodesAll_58 : decode cX9_decodesAll 58 = .ok (.iconst 0, 1) := by decide +kernel
theorem dX9_decodesAll_59 : decode cX9_decodesAll 59 = .ok (.invokevirtual 199, 3) := by decide +kernel
theorem dX9_decodesAll_62 : decode cX9_decodesAll 62 = .ok (.istore_n 1, 1) := by decide +kernel
theorem dX9_decodesAll_63 : decode cX9_decodesAll 63 = .ok (.iload_n 1, 1) := by decide +kernel
theorem dX9_decodesAll_64 : decode cX9_decodesAll 64 = .ok (.bipush 95, 2) := by decide +kernel
theorem dX9_decodesAll_66 : decode cX9_decodesAll 66 = .ok (.if_icmp .eq 73, 3) := by decide +kernel
theorem dX9_decodesAll_69 : decode cX9_decodesAll 69 = .ok (.iload_n 1, 1) := by decide +kernel
theorem dX9_decodesAll_70 : decode cX9_decodesAll 70 = .ok (.ifCond .ge 5, 3) := by decide +kernel
theorem dX9_decodesAll_73 : decode cX9_decodesAll 73 = .ok (.iconst 3, 1) := by decide +kernel
theorem dX9_decodesAll_74 : decode cX9_decodesAll 74 = .ok (.ireturn, 1) := by decide +kernel
theorem dX9_decodesAll_75 : decode cX9_decodesAll 75 = .ok (.aload_n 0, 1) := by decide +kernel
theorem dX9_decodesAll_76 : decode cX9_decodesAll 76 = .ok (.getfield 196, 3) := by decide +kernel
theorem dX9_decodesAll_79 : decode cX9_decodesAll 79 = .ok (.sipush 200, 3) := by decide +kernel
theorem dX9_decodesAll_82 : decode cX9_decodesAll 82 = .ok (.if_icmp .ne 5, 3) := by decide +kernel
theorem dX9_decodesAll_85 : decode cX9_decodesAll 85 = .ok (.iconst 1, 1) := by decide +kernel
theorem dX9_decodesAll_86 : decode cX9_decodesAll 86 = .ok (.ireturn, 1) := by decide +kernel
theorem dX9_decodesAll_87 : decode cX9_decodesAll 87 = .ok (.aload_n 0, 1) := by decide +kernel
theorem dX9_decodesAll_88 : decode cX9_decodesAll 88 = .ok (.aload_n 0, 1) := by decide +kernel
theorem dX9_decodesAll_89 : decode cX9_decodesAll 89 = .ok (.getfield 33, 3) := by decide +kernel
theorem dX9_decodesAll_92 : decode cX9_decodesAll 92 = .ok (.aload_n 0, 1) := by decide +kernel
theorem dX9_decodesAll_93 : decode cX9_decodesAll 93 = .ok (.getfield 196, 3) := by decide +kernel
theorem dX9_decodesAll_96 : decode cX9_decodesAll 96 = .ok (.iload_n 1, 1) := by decide +kernel
theorem dX9_decodesAll_97 : decode cX9_decodesAll 97 = .ok (.invokevirtual 146, 3) := by decide +kernel
theorem dX9_decodesAll_100 : decode cX9_decodesAll 100 = .ok (.aload_n 0, 1) := by decide +kernel
theorem dX9_decodesAll_101 : decode cX9_decodesAll 101 = .ok (.getfield 33, 3) := by decide +kernel
theorem dX9_decodesAll_104 : decode cX9_decodesAll 104 = .ok (.aload_n 0, 1) := by decide +kernel
theorem dX9_decodesAll_105 : decode cX9_decodesAll 105 = .ok (.getfield 196, 3) := by decide +kernel
theorem dX9_decodesAll_108 : decode cX9_decodesAll 108 = .ok (.iload_n 1, 1) := by decide +kernel
theorem dX9_decodesAll_109 : decode cX9_decodesAll 109 = .ok (.bipush 32, 2) := by decide +kernel
theorem dX9_decodesAll_111 : decode cX9_decodesAll 111 = .ok (.iadd, 1) := by decide +kernel
theorem dX9_decodesAll_112 : decode cX9_decodesAll 112 = .ok (.iastore, 1) := by decide +kernel
theorem dX9_decodesAll_113 : decode cX9_decodesAll 113 = .ok (.aload_n 0, 1) := by decide +kernel
theorem dX9_decodesAll_114 : decode cX9_decodesAll 114 = .ok (.dup, 1) := by decide +kernel
theorem dX9_decodesAll_115 : decode cX9_decodesAll 115 = .ok (.getfield 196, 3) := by decide +kernel
theorem dX9_decodesAll_118 : decode cX9_decodesAll 118 = .ok (.iconst 1, 1) := by decide +kernel
theorem dX9_decodesAll_119 : decode cX9_decodesAll 119 = .ok (.iadd, 1) := by decide +kernel
theorem dX9_decodesAll_120 : decode cX9_decodesAll 120 = .ok (.putfield 196, 3) := by decide +kernel
theorem dX9_decodesAll_123 : decode cX9_decodesAll 123 = .ok (.aload_n 0, 1) := by decide +kernel
theorem dX9_decodesAll_124 : decode cX9_decodesAll 124 = .ok (.aload_n 0, 1) := by decide +kernel
theorem dX9_decodesAll_125 : decode cX9_decodesAll 125 = .ok (.getfield 33, 3) := by decide +kernel
theorem dX9_decodesAll_128 : decode cX9_decodesAll 128 = .ok (.aload_n 0, 1) := by decide +kernel
theorem dX9_decodesAll_129 : decode cX9_decodesAll 129 = .ok (.getfield 196, 3) := by decide +kernel
theorem dX9_decodesAll_132 : decode cX9_decodesAll 132 = .ok (.invokevirtual 199, 3) := by decide +kernel
theorem dX9_decodesAll_135 : decode cX9_decodesAll 135 = .ok (.istore_n 1, 1) := by decide +kernel
theorem dX9_decodesAll_136 : decode cX9_decodesAll 136 = .ok (.goto (-73), 3) := by decide +kernel
theorem dX9_decodesAll_139 : decode cX9_decodesAll 139 = .ok (.aload_n 0, 1) := by decide +kernel
theorem dX9_decodesAll_140 : decode cX9_decodesAll 140 = .ok (.ldc 88, 2) := by decide +kernel
theorem dX9_decodesAll_142 : decode cX9_decodesAll 142 = .ok (.invokevirtual 190, 3) := by decide +kernel
theorem dX9_decodesAll_145 : decode cX9_decodesAll 145 = .ok (.aload_n 0, 1) := by decide +kernel
theorem dX9_decodesAll_146 : decode cX9_decodesAll 146 = .ok (.getfield 33, 3) := by decide +kernel
theorem dX9_decodesAll_149 : decode cX9_decodesAll 149 = .ok (.aload_n 0, 1) := by decide +kernel
theorem dX9_decodesAll_150 : decode cX9_decodesAll 150 = .ok (.getfield 196, 3) := by decide +kernel
theorem dX9_decodesAll_153 : decode cX9_decodesAll 153 = .ok (.invokestatic 163, 3) := by decide +kernel
theorem dX9_decodesAll_156 : decode cX9_decodesAll 156 = .ok (.if_icmp .ne 7, 3) := by decide +kernel
theorem dX9_decodesAll_159 : decode cX9_decodesAll 159 = .ok (.iconst 0, 1) := by decide +kernel
theorem dX9_decodesAll_160 : decode cX9_decodesAll 160 = .ok (.goto 4, 3) := by decide +kernel
theorem dX9_decodesAll_163 : decode cX9_decodesAll 163 = .ok (.iconst 2, 1) := by decide +kernel
theorem dX9_decodesAll_164 : decode cX9_decodesAll 164 = .ok (.ireturn, 1) := by decide +kernel
theorem dX9_isCode_0 : decode cX9_isCode 0 = .ok (.aload_n 0, 1) := by decide +kernel
theorem dX9_isCode_1 : decode cX9_isCode 1 = .ok (.getfield 73, 3) := by decide +kernel
theorem dX9_isCode_4 : decode cX9_isCode 4 = .ok (.aload_n 0, 1) := by decide +kernel
theorem dX9_isCode_5 : decode cX9_isCode 5 = .ok (.getfield 7, 3) := by decide +kernel
theorem dX9_isCode_8 : decode cX9_isCode 8 = .ok (.iconst 5, 1) := by decide +kernel
theorem dX9_isCode_9 : decode cX9_isCode 9 = .ok (.iaload, 1) := by decide +kernel
theorem dX9_isCode_10 : decode cX9_isCode 10 = .ok (.if_icmp .ne 7, 3) := by decide +kernel
theorem dX9_isCode_13 : decode cX9_isCode 13 = .ok (.iconst 1, 1) := by decide +kernel
theorem dX9_isCode_14 : decode cX9_isCode 14 = .ok (.goto 4, 3) := by decide +kernel
theorem dX9_isCode_17 : decode cX9_isCode 17 = .ok (.iconst 0, 1) := by decide +kernel
theorem dX9_isCode_18 : decode cX9_isCode 18 = .ok (.istore_n 1, 1) := by decide +kernel
theorem dX9_isCode_19 : decode cX9_isCode 19 = .ok (.iconst 0, 1) := by decide +kernel
theorem dX9_isCode_20 : decode cX9_isCode 20 = .ok (.istore_n 2, 1) := by decide +kernel
theorem dX9_isCode_21 : decode cX9_isCode 21 = .ok (.iload_n 2, 1) := by decide +kernel
theorem dX9_isCode_22 : decode cX9_isCode 22 = .ok (.aload_n 0, 1) := by decide +kernel
theorem dX9_isCode_23 : decode cX9_isCode 23 = .ok (.getfield 73, 3) := by decide +kernel
theorem dX9_isCode_26 : decode cX9_isCode 26 = .ok (.if_icmp .ge 38, 3) := by decide +kernel
theorem dX9_isCode_29 : decode cX9_isCode 29 = .ok (.iload_n 1, 1) := by decide +kernel
theorem dX9_isCode_30 : decode cX9_isCode 30 = .ok (.ifCond .eq 34, 3) := by decide +kernel
theorem dX9_isCode_33 : decode cX9_isCode 33 = .ok (.aload_n 0, 1) := by decide +kernel
theorem dX9_isCode_34 : decode cX9_isCode 34 = .ok (.getfield 23, 3) := by decide +kernel
theorem dX9_isCode_37 : decode cX9_isCode 37 = .ok (.iload_n 2, 1) := by decide +kernel
theorem dX9_isCode_38 : decode cX9_isCode 38 = .ok (.iaload, 1) := by decide +kernel
theorem dX9_isCode_39 : decode cX9_isCode 39 = .ok (.aload_n 0, 1) := by decide +kernel
theorem dX9_isCode_40 : decode cX9_isCode 40 = .ok (.getfield 7, 3) := by decide +kernel
theorem dX9_isCode_43 : decode cX9_isCode 43 = .ok (.sipush 24260, 3) := by decide +kernel
theorem dX9_isCode_46 : decode cX9_isCode 46 = .ok (.iload_n 2, 1) := by decide +kernel
theorem dX9_isCode_47 : decode cX9_isCode 47 = .ok (.iadd, 1) := by decide +kernel
theorem dX9_isCode_48 : decode cX9_isCode 48 = .ok (.iaload, 1) := by decide +kernel
theorem dX9_isCode_49 : decode cX9_isCode 49 = .ok (.if_icmp .ne 7, 3) := by decide +kernel
theorem dX9_isCode_52 : decode cX9_isCode 52 = .ok (.iconst 1, 1) := by decide +kernel
theorem dX9_isCode_53 : decode cX9_isCode 53 = .ok (.goto 4, 3) := by decide +kernel
theorem dX9_isCode_56 : decode cX9_isCode 56 = .ok (.iconst 0, 1) := by decide +kernel
theorem dX9_isCode_57 : decode cX9_isCode 57 = .ok (.istore_n 1, 1) := by decide +kernel
theorem dX9_isCode_58 : decode cX9_isCode 58 = .ok (.iinc 2 1, 3) := by decide +kernel
theorem dX9_isCode_61 : decode cX9_isCode 61 = .ok (.goto (-40), 3) := by decide +kernel
theorem dX9_isCode_64 : decode cX9_isCode 64 = .ok (.iload_n 1, 1) := by decide +kernel
theorem dX9_isCode_65 : decode cX9_isCode 65 = .ok (.ireturn, 1) := by decide +kernel
theorem dX9_decode_0 : decode cX9_decode 0 = .ok (.aload_n 0, 1) := by decide +kernel
theorem dX9_decode_1 : decode cX9_decode 1 = .ok (.getfield 7, 3) := by decide +kernel
theorem dX9_decode_4 : decode cX9_decode 4 = .ok (.aload_n 0, 1) := by decide +kernel
theorem dX9_decode_5 : decode cX9_decode 5 = .ok (.getfield 13, 3) := by decide +kernel
theorem dX9_decode_8 : decode cX9_decode 8 = .ok (.invokestatic 172, 3) := by decide +kernel
theorem dX9_decode_11 : decode cX9_decode 11 = .ok (.aload_n 0, 1) := by decide +kernel
theorem dX9_decode_12 : decode cX9_decode 12 = .ok (.invokevirtual 202, 3) := by decide +kernel
theorem dX9_decode_15 : decode cX9_decode 15 = .ok (.istore_n 1, 1) := by decide +kernel
theorem dX9_decode_16 : decode cX9_decode 16 = .ok (.aload_n 0, 1) := by decide +kernel
theorem dX9_decode_17 : decode cX9_decode 17 = .ok (.getfield 13, 3) := by decide +kernel
theorem dX9_decode_20 : decode cX9_decode 20 = .ok (.aload_n 0, 1) := by decide +kernel
theorem dX9_decode_21 : decode cX9_decode 21 = .ok (.getfield 7, 3) := by decide +kernel
theorem dX9_decode_24 : decode cX9_decode 24 = .ok (.invokestatic 172, 3) := by decide +kernel
theorem dX9_decode_27 : decode cX9_decode 27 = .ok (.iload_n 1, 1) := by decide +kernel
theorem dX9_decode_28 : decode cX9_decode 28 = .ok (.ifCond .ne 28, 3) := by decide +kernel
theorem dX9_decode_31 : decode cX9_decode 31 = .ok (.aload_n 0, 1) := by decide +kernel
theorem dX9_decode_32 : decode cX9_decode 32 = .ok (.aload_n 0, 1) := by decide +kernel
theorem dX9_decode_33 : decode cX9_decode 33 = .ok (.getfield 33, 3) := by decide +kernel
theorem dX9_decode_36 : decode cX9_decode 36 = .ok (.aload_n 0, 1) := by decide +kernel
theorem dX9_decode_37 : decode cX9_decode 37 = .ok (.getfield 196, 3) := by decide +kernel
theorem dX9_decode_40 : decode cX9_decode 40 = .ok (.invokevirtual 176, 3) := by decide +kernel
theorem dX9_decode_43 : decode cX9_decode 43 = .ok (.aload_n 0, 1) := by decide +kernel
theorem dX9_decode_44 : decode cX9_decode 44 = .ok (.invokevirtual 205, 3) := by decide +kernel
theorem dX9_decode_47 : decode cX9_decode 47 = .ok (.ifCond .eq 7, 3) := by decide +kernel
theorem dX9_decode_50 : decode cX9_decode 50 = .ok (.iconst 0, 1) := by decide +kernel
theorem dX9_decode_51 : decode cX9_decode 51 = .ok (.goto 4, 3) := by decide +kernel
theorem dX9_decode_54 : decode cX9_decode 54 = .ok (.iconst 3, 1) := by decide +kernel
theorem dX9_decode_55 : decode cX9_decode 55 = .ok (.istore_n 1, 1) := by decide +kernel
theorem dX9_decode_56 : decode cX9_decode 56 = .ok (.iload_n 1, 1) := by decide +kernel
theorem dX9_decode_57 : decode cX9_decode 57 = .ok (.ifCond .eq 19, 3) := by decide +kernel
theorem dX9_decode_60 : decode cX9_decode 60 = .ok (.aload_n 0, 1) := by decide +kernel
theorem dX9_decode_61 : decode cX9_decode 61 = .ok (.getfield 13, 3) := by decide +kernel
theorem dX9_decode_64 : decode cX9_decode 64 = .ok (.aload_n 0, 1) := by decide +kernel
theorem dX9_decode_65 : decode cX9_decode 65 = .ok (.getfield 7, 3) := by decide +kernel
theorem dX9_decode_68 : decode cX9_decode 68 = .ok (.invokestatic 172, 3) := by decide +kernel
theorem dX9_decode_71 : decode cX9_decode 71 = .ok (.bipush (-100), 2) := by decide +kernel
theorem dX9_decode_73 : decode cX9_decode 73 = .ok (.iload_n 1, 1) := by decide +kernel
theorem dX9_decode_74 : decode cX9_decode 74 = .ok (.isub, 1) := by decide +kernel
theorem dX9_decode_75 : decode cX9_decode 75 = .ok (.ireturn, 1) := by decide +kernel
theorem dX9_decode_76 : decode cX9_decode 76 = .ok (.aload_n 0, 1) := by decide +kernel
theorem dX9_decode_77 : decode cX9_decode 77 = .ok (.aload_n 0, 1) := by decide +kernel
theorem dX9_decode_78 : decode cX9_decode 78 = .ok (.getfield 13, 3) := by decide +kernel
theorem dX9_decode_81 : decode cX9_decode 81 = .ok (.invokevirtual 41, 3) := by decide +kernel
theorem dX9_decode_84 : decode cX9_decode 84 = .ok (.aload_n 0, 1) := by decide +kernel
theorem dX9_decode_85 : decode cX9_decode 85 = .ok (.getfield 7, 3) := by decide +kernel
theorem dX9_decode_88 : decode cX9_decode 88 = .ok (.bipush 9, 2) := by decide +kernel
theorem dX9_decode_90 : decode cX9_decode 90 = .ok (.aload_n 0, 1) := by decide +kernel
theorem dX9_decode_91 : decode cX9_decode 91 = .ok (.getfield 196, 3) := by decide +kernel
theorem dX9_decode_94 : decode cX9_decode 94 = .ok (.iastore, 1) := by decide +kernel
theorem dX9_decode_95 : decode cX9_decode 95 = .ok (.iconst 0, 1) := by decide +kernel
theorem dX9_decode_96 : decode cX9_decode 96 = .ok (.istore_n 2, 1) := by decide +kernel
theorem dX9_decode_97 : decode cX9_decode 97 = .ok (.iload_n 2, 1) := by decide +kernel
theorem dX9_decode_98 : decode cX9_decode 98 = .ok (.sipush 200, 3) := by decide +kernel
theorem dX9_decode_101 : decode cX9_decode 101 = .ok (.if_icmp .ge 37, 3) := by decide +kernel
theorem dX9_decode_104 : decode cX9_decode 104 = .ok (.aload_n 0, 1) := by decide +kernel
theorem dX9_decode_105 : decode cX9_decode 105 = .ok (.getfield 7, 3) := by decide +kernel
theorem dX9_decode_108 : decode cX9_decode 108 = .ok (.sipush 25480, 3) := by decide +kernel
theorem dX9_decode_111 : decode cX9_decode 111 = .ok (.iload_n 2, 1) := by decide +kernel
theorem dX9_decode_112 : decode cX9_decode 112 = .ok (.iadd, 1) := by decide +kernel
theorem dX9_decode_113 : decode cX9_decode 113 = .ok (.iload_n 2, 1) := by decide +kernel
theorem dX9_decode_114 : decode cX9_decode 114 = .ok (.aload_n 0, 1) := by decide +kernel
theorem dX9_decode_115 : decode cX9_decode 115 = .ok (.getfield 196, 3) := by decide +kernel
theorem dX9_decode_118 : decode cX9_decode 118 = .ok (.if_icmp .ge 12, 3) := by decide +kernel
theorem dX9_decode_121 : decode cX9_decode 121 = .ok (.aload_n 0, 1) := by decide +kernel
theorem dX9_decode_122 : decode cX9_decode 122 = .ok (.getfield 33, 3) := by decide +kernel
theorem dX9_decode_125 : decode cX9_decode 125 = .ok (.iload_n 2, 1) := by decide +kernel
theorem dX9_decode_126 : decode cX9_decode 126 = .ok (.iaload, 1) := by decide +kernel
theorem dX9_decode_127 : decode cX9_decode 127 = .ok (.goto 4, 3) := by decide +kernel
theorem dX9_decode_130 : decode cX9_decode 130 = .ok (.iconst 0, 1) := by decide +kernel
theorem dX9_decode_131 : decode cX9_decode 131 = .ok (.iastore, 1) := by decide +kernel
theorem dX9_decode_132 : decode cX9_decode 132 = .ok (.iinc 2 1, 3) := by decide +kernel
theorem dX9_decode_135 : decode cX9_decode 135 = .ok (.goto (-38), 3) := by decide +kernel
theorem dX9_decode_138 : decode cX9_decode 138 = .ok (.aload_n 0, 1) := by decide +kernel
theorem dX9_decode_139 : decode cX9_decode 139 = .ok (.getfield 196, 3) := by decide +kernel
theorem dX9_decode_142 : decode cX9_decode 142 = .ok (.ireturn, 1) := by decide +kernel
theorem dX9_decoded_0 : decode cX9_decoded 0 = .ok (.iload_n 1, 1) := by decide +kernel
theorem dX9_decoded_1 : decode cX9_decoded 1 = .ok (.ifCond .ge 7, 3) := by decide +kernel
theorem dX9_decoded_4 : decode cX9_decoded 4 = .ok (.iconst (-1), 1) := by decide +kernel
theorem dX9_decoded_5 : decode cX9_decoded 5 = .ok (.goto 29, 3) := by decide +kernel
theorem dX9_decoded_8 : decode cX9_decoded 8 = .ok (.iload_n 1, 1) := by decide +kernel
theorem dX9_decoded_9 : decode cX9_decoded 9 = .ok (.aload_n 0, 1) := by decide +kernel
theorem dX9_decoded_10 : decode cX9_decoded 10 = .ok (.getfield 7, 3) := by decide +kernel
theorem dX9_decoded_13 : decode cX9_decoded 13 = .ok (.bipush 9, 2) := by decide +kernel
theorem dX9_decoded_15 : decode cX9_decoded 15 = .ok (.iaload, 1) := by decide +kernel
theorem dX9_decoded_16 : decode cX9_decoded 16 = .ok (.if_icmp .ge 16, 3) := by decide +kernel
theorem dX9_decoded_19 : decode cX9_decoded 19 = .ok (.aload_n 0, 1) := by decide +kernel
theorem dX9_decoded_20 : decode cX9_decoded 20 = .ok (.getfield 7, 3) := by decide +kernel
theorem dX9_decoded_23 : decode cX9_decoded 23 = .ok (.sipush 25480, 3) := by decide +kernel
theorem dX9_decoded_26 : decode cX9_decoded 26 = .ok (.iload_n 1, 1) := by decide +kernel
theorem dX9_decoded_27 : decode cX9_decoded 27 = .ok (.iadd, 1) := by decide +kernel
theorem dX9_decoded_28 : decode cX9_decoded 28 = .ok (.iaload, 1) := by decide +kernel
theorem dX9_decoded_29 : decode cX9_decoded 29 = .ok (.goto 5, 3) := by decide +kernel
theorem dX9_decoded_32 : decode cX9_decoded 32 = .ok (.bipush (-9), 2) := by decide +kernel
theorem dX9_decoded_34 : decode cX9_decoded 34 = .ok (.ireturn, 1) := by decide +kernel
theorem dX9_flip_0 : decode cX9_flip 0 = .ok (.iload_n 1, 1) := by decide +kernel
theorem dX9_flip_1 : decode cX9_flip 1 = .ok (.iconst 0, 1) := by decide +kernel
theorem dX9_flip_2 : decode cX9_flip 2 = .ok (.aload_n 0, 1) := by decide +kernel
theorem dX9_flip_3 : decode cX9_flip 3 = .ok (.getfield 7, 3) := by decide +kernel
theorem dX9_flip_6 : decode cX9_flip 6 = .ok (.iconst 5, 1) := by decide +kernel
theorem dX9_flip_7 : decode cX9_flip 7 = .ok (.iaload, 1) := by decide +kernel
theorem dX9_flip_8 : decode cX9_flip 8 = .ok (.iconst 1, 1) := by decide +kernel
theorem dX9_flip_9 : decode cX9_flip 9 = .ok (.isub, 1) := by decide +kernel
theorem dX9_flip_10 : decode cX9_flip 10 = .ok (.invokestatic 130, 3) := by decide +kernel
theorem dX9_flip_13 : decode cX9_flip 13 = .ok (.ifCond .eq 13, 3) := by decide +kernel
theorem dX9_flip_16 : decode cX9_flip 16 = .ok (.iload_n 2, 1) := by decide +kernel
theorem dX9_flip_17 : decode cX9_flip 17 = .ok (.iconst 0, 1) := by decide +kernel
theorem dX9_flip_18 : decode cX9_flip 18 = .ok (.bipush 7, 2) := by decide +kernel
theorem dX9_flip_20 : decode cX9_flip 20 = .ok (.invokestatic 130, 3) := by decide +kernel
theorem dX9_flip_23 : decode cX9_flip 23 = .ok (.ifCond .ne 5, 3) := by decide +kernel
theorem dX9_flip_26 : decode cX9_flip 26 = .ok (.iconst (-1), 1) := by decide +kernel
theorem dX9_flip_27 : decode cX9_flip 27 = .ok (.ireturn, 1) := by decide +kernel
theorem dX9_flip_28 : decode cX9_flip 28 = .ok (.aload_n 0, 1) := by decide +kernel
theorem dX9_flip_29 : decode cX9_flip 29 = .ok (.aload_n 0, 1) := by decide +kernel
theorem dX9_flip_30 : decode cX9_flip 30 = .ok (.getfield 7, 3) := by decide +kernel
theorem dX9_flip_33 : decode cX9_flip 33 = .ok (.invokevirtual 41, 3) := by decide +kernel
theorem dX9_flip_36 : decode cX9_flip 36 = .ok (.aload_n 0, 1) := by decide +kernel
theorem dX9_flip_37 : decode cX9_flip 37 = .ok (.getfield 7, 3) := by decide +kernel
theorem dX9_flip_40 : decode cX9_flip 40 = .ok (.sipush 24260, 3) := by decide +kernel
theorem dX9_flip_43 : decode cX9_flip 43 = .ok (.iload_n 1, 1) := by decide +kernel
theorem dX9_flip_44 : decode cX9_flip 44 = .ok (.iadd, 1) := by decide +kernel
theorem dX9_flip_45 : decode cX9_flip 45 = .ok (.dup2, 1) := by decide +kernel
theorem dX9_flip_46 : decode cX9_flip 46 = .ok (.iaload, 1) := by decide +kernel
theorem dX9_flip_47 : decode cX9_flip 47 = .ok (.iconst 1, 1) := by decide +kernel
theorem dX9_flip_48 : decode cX9_flip 48 = .ok (.iload_n 2, 1) := by decide +kernel
theorem dX9_flip_49 : decode cX9_flip 49 = .ok (.ishl, 1) := by decide +kernel
theorem dX9_flip_50 : decode cX9_flip 50 = .ok (.ixor, 1) := by decide +kernel
theorem dX9_flip_51 : decode cX9_flip 51 = .ok (.iastore, 1) := by decide +kernel
theorem dX9_flip_52 : decode cX9_flip 52 = .ok (.aload_n 0, 1) := by decide +kernel
theorem dX9_flip_53 : decode cX9_flip 53 = .ok (.getfield 7, 3) := by decide +kernel
theorem dX9_flip_56 : decode cX9_flip 56 = .ok (.sipush 24260, 3) := by decide +kernel
theorem dX9_flip_59 : decode cX9_flip 59 = .ok (.iload_n 1, 1) := by decide +kernel
theorem dX9_flip_60 : decode cX9_flip 60 = .ok (.iadd, 1) := by decide +kernel
theorem dX9_flip_61 : decode cX9_flip 61 = .ok (.iaload, 1) := by decide +kernel
theorem dX9_flip_62 : decode cX9_flip 62 = .ok (.ireturn, 1) := by decide +kernel
theorem dX9_cut_0 : decode cX9_cut 0 = .ok (.iload_n 1, 1) := by decide +kernel
theorem dX9_cut_1 : decode cX9_cut 1 = .ok (.iconst 1, 1) := by decide +kernel
theorem dX9_cut_2 : decode cX9_cut 2 = .ok (.sipush 400, 3) := by decide +kernel
theorem dX9_cut_5 : decode cX9_cut 5 = .ok (.invokestatic 130, 3) := by decide +kernel
theorem dX9_cut_8 : decode cX9_cut 8 = .ok (.ifCond .ne 5, 3) := by decide +kernel
theorem dX9_cut_11 : decode cX9_cut 11 = .ok (.iconst (-1), 1) := by decide +kernel
theorem dX9_cut_12 : decode cX9_cut 12 = .ok (.ireturn, 1) := by decide +kernel
theorem dX9_cut_13 : decode cX9_cut 13 = .ok (.iload_n 1, 1) := by decide +kernel
theorem dX9_cut_14 : decode cX9_cut 14 = .ok (.aload_n 0, 1) := by decide +kernel
theorem dX9_cut_15 : decode cX9_cut 15 = .ok (.getfield 7, 3) := by decide +kernel
theorem dX9_cut_18 : decode cX9_cut 18 = .ok (.iconst 5, 1) := by decide +kernel
theorem dX9_cut_19 : decode cX9_cut 19 = .ok (.iaload, 1) := by decide +kernel
theorem dX9_cut_20 : decode cX9_cut 20 = .ok (.if_icmp .le 6, 3) := by decide +kernel
theorem dX9_cut_23 : decode cX9_cut 23 = .ok (.bipush (-2), 2) := by decide +kernel
theorem dX9_cut_25 : decode cX9_cut 25 = .ok (.ireturn, 1) := by decide +kernel
theorem dX9_cut_26 : decode cX9_cut 26 = .ok (.aload_n 0, 1) := by decide +kernel
theorem dX9_cut_27 : decode cX9_cut 27 = .ok (.aload_n 0, 1) := by decide +kernel
theorem dX9_cut_28 : decode cX9_cut 28 = .ok (.getfield 7, 3) := by decide +kernel
theorem dX9_cut_31 : decode cX9_cut 31 = .ok (.invokevirtual 41, 3) := by decide +kernel
theorem dX9_cut_34 : decode cX9_cut 34 = .ok (.aload_n 0, 1) := by decide +kernel
theorem dX9_cut_35 : decode cX9_cut 35 = .ok (.getfield 7, 3) := by decide +kernel
theorem dX9_cut_38 : decode cX9_cut 38 = .ok (.iconst 5, 1) := by decide +kernel
theorem dX9_cut_39 : decode cX9_cut 39 = .ok (.dup2, 1) := by decide +kernel
theorem dX9_cut_40 : decode cX9_cut 40 = .ok (.iaload, 1) := by decide +kernel
theorem dX9_cut_41 : decode cX9_cut 41 = .ok (.iload_n 1, 1) := by decide +kernel
theorem dX9_cut_42 : decode cX9_cut 42 = .ok (.isub, 1) := by decide +kernel
theorem dX9_cut_43 : decode cX9_cut 43 = .ok (.iastore, 1) := by decide +kernel
theorem dX9_cut_44 : decode cX9_cut 44 = .ok (.aload_n 0, 1) := by decide +kernel
theorem dX9_cut_45 : decode cX9_cut 45 = .ok (.getfield 7, 3) := by decide +kernel
theorem dX9_cut_48 : decode cX9_cut 48 = .ok (.iconst 5, 1) := by decide +kernel
theorem dX9_cut_49 : decode cX9_cut 49 = .ok (.iaload, 1) := by decide +kernel
theorem dX9_cut_50 : decode cX9_cut 50 = .ok (.ireturn, 1) := by decide +kernel
theorem dX9_append_0 : decode cX9_append 0 = .ok (.iload_n 1, 1) := by decide +kernel
theorem dX9_append_1 : decode cX9_append 1 = .ok (.iconst 0, 1) := by decide +kernel
theorem dX9_append_2 : decode cX9_append 2 = .ok (.sipush 255, 3) := by decide +kernel
theorem dX9_append_5 : decode cX9_append 5 = .ok (.invokestatic 130, 3) := by decide +kernel
theorem dX9_append_8 : decode cX9_append 8 = .ok (.ifCond .ne 5, 3) := by decide +kernel
theorem dX9_append_11 : decode cX9_append 11 = .ok (.iconst (-1), 1) := by decide +kernel
theorem dX9_append_12 : decode cX9_append 12 = .ok (.ireturn, 1) := by decide +kernel
theorem dX9_append_13 : decode cX9_append 13 = .ok (.aload_n 0, 1) := by decide +kernel
theorem dX9_append_14 : decode cX9_append 14 = .ok (.getfield 7, 3) := by decide +kernel
theorem dX9_append_17 : decode cX9_append 17 = .ok (.iconst 5, 1) := by decide +kernel
theorem dX9_append_18 : decode cX9_append 18 = .ok (.iaload, 1) := by decide +kernel
theorem dX9_append_19 : decode cX9_append 19 = .ok (.sipush 400, 3) := by decide +kernel
theorem dX9_append_22 : decode cX9_append 22 = .ok (.if_icmp .ne 6, 3) := by decide +kernel
theorem dX9_append_25 : decode cX9_append 25 = .ok (.bipush (-3), 2) := by decide +kernel
theorem dX9_append_27 : decode cX9_append 27 = .ok (.ireturn, 1) := by decide +kernel
theorem dX9_append_28 : decode cX9_append 28 = .ok (.aload_n 0, 1) := by decide +kernel
theorem dX9_append_29 : decode cX9_append 29 = .ok (.aload_n 0, 1) := by decide +kernel
theorem dX9_append_30 : decode cX9_append 30 = .ok (.getfield 7, 3) := by decide +kernel
theorem dX9_append_33 : decode cX9_append 33 = .ok (.invokevirtual 41, 3) := by decide +kernel
theorem dX9_append_36 : decode cX9_append 36 = .ok (.aload_n 0, 1) := by decide +kernel
theorem dX9_append_37 : decode cX9_append 37 = .ok (.getfield 7, 3) := by decide +kernel
theorem dX9_append_40 : decode cX9_append 40 = .ok (.sipush 24260, 3) := by decide +kernel
theorem dX9_append_43 : decode cX9_append 43 = .ok (.aload_n 0, 1) := by decide +kernel
theorem dX9_append_44 : decode cX9_append 44 = .ok (.getfield 7, 3) := by decide +kernel
theorem dX9_append_47 : decode cX9_append 47 = .ok (.iconst 5, 1) := by decide +kernel
theorem dX9_append_48 : decode cX9_append 48 = .ok (.iaload, 1) := by decide +kernel
theorem dX9_append_49 : decode cX9_append 49 = .ok (.iadd, 1) := by decide +kernel
theorem dX9_append_50 : decode cX9_append 50 = .ok (.iload_n 1, 1) := by decide +kernel
theorem dX9_append_51 : decode cX9_append 51 = .ok (.iastore, 1) := by decide +kernel
theorem dX9_append_52 : decode cX9_append 52 = .ok (.aload_n 0, 1) := by decide +kernel
theorem dX9_append_53 : decode cX9_append 53 = .ok (.getfield 7, 3) := by decide +kernel
theorem dX9_append_56 : decode cX9_append 56 = .ok (.iconst 5, 1) := by decide +kernel
theorem dX9_append_57 : decode cX9_append 57 = .ok (.dup2, 1) := by decide +kernel
theorem dX9_append_58 : decode cX9_append 58 = .ok (.iaload, 1) := by decide +kernel
theorem dX9_append_59 : decode cX9_append 59 = .ok (.iconst 1, 1) := by decide +kernel
theorem dX9_append_60 : decode cX9_append 60 = .ok (.iadd, 1) := by decide +kernel
theorem dX9_append_61 : decode cX9_append 61 = .ok (.iastore, 1) := by decide +kernel
theorem dX9_append_62 : decode cX9_append 62 = .ok (.aload_n 0, 1) := by decide +kernel
theorem dX9_append_63 : decode cX9_append 63 = .ok (.getfield 7, 3) := by decide +kernel
theorem dX9_append_66 : decode cX9_append 66 = .ok (.iconst 5, 1) := by decide +kernel
theorem dX9_append_67 : decode cX9_append 67 = .ok (.iaload, 1) := by decide +kernel
theorem dX9_append_68 : decode cX9_append 68 = .ok (.ireturn, 1) := by decide +kernel
theorem dX9_coded_0 : decode cX9_coded 0 = .ok (.aload_n 0, 1) := by decide +kernel
theorem dX9_coded_1 : decode cX9_coded 1 = .ok (.getfield 7, 3) := by decide +kernel
theorem dX9_coded_4 : decode cX9_coded 4 = .ok (.bipush 7, 2) := by decide +kernel
theorem dX9_coded_6 : decode cX9_coded 6 = .ok (.iaload, 1) := by decide +kernel
theorem dX9_coded_7 : decode cX9_coded 7 = .ok (.ireturn, 1) := by decide +kernel
theorem dX9_account_0 : decode cX9_account 0 = .ok (.iload_n 1, 1) := by decide +kernel
theorem dX9_account_1 : decode cX9_account 1 = .ok (.iconst 0, 1) := by decide +kernel
theorem dX9_account_2 : decode cX9_account 2 = .ok (.aload_n 0, 1) := by decide +kernel
theorem dX9_account_3 : decode cX9_account 3 = .ok (.getfield 7, 3) := by decide +kernel
theorem dX9_account_6 : decode cX9_account 6 = .ok (.bipush 7, 2) := by decide +kernel
theorem dX9_account_8 : decode cX9_account 8 = .ok (.iaload, 1) := by decide +kernel
theorem dX9_account_9 : decode cX9_account 9 = .ok (.iconst 1, 1) := by decide +kernel
theorem dX9_account_10 : decode cX9_account 10 = .ok (.isub, 1) := by decide +kernel
theorem dX9_account_11 : decode cX9_account 11 = .ok (.invokestatic 130, 3) := by decide +kernel
theorem dX9_account_14 : decode cX9_account 14 = .ok (.ifCond .eq 29, 3) := by decide +kernel
theorem dX9_account_17 : decode cX9_account 17 = .ok (.iload_n 2, 1) := by decide +kernel
theorem dX9_account_18 : decode cX9_account 18 = .ok (.iconst 0, 1) := by decide +kernel
theorem dX9_account_19 : decode cX9_account 19 = .ok (.iconst 3, 1) := by decide +kernel
theorem dX9_account_20 : decode cX9_account 20 = .ok (.invokestatic 130, 3) := by decide +kernel
theorem dX9_account_23 : decode cX9_account 23 = .ok (.ifCond .eq 20, 3) := by decide +kernel
theorem dX9_account_26 : decode cX9_account 26 = .ok (.aload_n 0, 1) := by decide +kernel
theorem dX9_account_27 : decode cX9_account 27 = .ok (.getfield 7, 3) := by decide +kernel
theorem dX9_account_30 : decode cX9_account 30 = .ok (.sipush 24660, 3) := by decide +kernel
theorem dX9_account_33 : decode cX9_account 33 = .ok (.iconst 4, 1) := by decide +kernel
theorem dX9_account_34 : decode cX9_account 34 = .ok (.iload_n 1, 1) := by decide +kernel
theorem dX9_account_35 : decode cX9_account 35 = .ok (.imul, 1) := by decide +kernel
theorem dX9_account_36 : decode cX9_account 36 = .ok (.iadd, 1) := by decide +kernel
theorem dX9_account_37 : decode cX9_account 37 = .ok (.iload_n 2, 1) := by decide +kernel
theorem dX9_account_38 : decode cX9_account 38 = .ok (.iadd, 1) := by decide +kernel
theorem dX9_account_39 : decode cX9_account 39 = .ok (.iaload, 1) := by decide +kernel
theorem dX9_account_40 : decode cX9_account 40 = .ok (.goto 4, 3) := by decide +kernel
theorem dX9_account_43 : decode cX9_account 43 = .ok (.iconst (-1), 1) := by decide +kernel
theorem dX9_account_44 : decode cX9_account 44 = .ok (.ireturn, 1) := by decide +kernel
theorem dX9_cost_0 : decode cX9_cost 0 = .ok (.aload_n 0, 1) := by decide +kernel
theorem dX9_cost_1 : decode cX9_cost 1 = .ok (.getfield 7, 3) := by decide +kernel
theorem dX9_cost_4 : decode cX9_cost 4 = .ok (.bipush 8, 2) := by decide +kernel
theorem dX9_cost_6 : decode cX9_cost 6 = .ok (.iaload, 1) := by decide +kernel
theorem dX9_cost_7 : decode cX9_cost 7 = .ok (.ireturn, 1) := by decide +kernel
theorem dX9_lg_0 : decode cX9_lg 0 = .ok (.iload_n 2, 1) := by decide +kernel
theorem dX9_lg_1 : decode cX9_lg 1 = .ok (.iconst 1, 1) := by decide +kernel
theorem dX9_lg_2 : decode cX9_lg 2 = .ok (.ldc 209, 2) := by decide +kernel
theorem dX9_lg_4 : decode cX9_lg 4 = .ok (.invokestatic 130, 3) := by decide +kernel
theorem dX9_lg_7 : decode cX9_lg 7 = .ok (.ifCond .eq 24, 3) := by decide +kernel
theorem dX9_lg_10 : decode cX9_lg 10 = .ok (.iload_n 1, 1) := by decide +kernel
theorem dX9_lg_11 : decode cX9_lg 11 = .ok (.iconst 1, 1) := by decide +kernel
theorem dX9_lg_12 : decode cX9_lg 12 = .ok (.iload_n 2, 1) := by decide +kernel
theorem dX9_lg_13 : decode cX9_lg 13 = .ok (.invokestatic 130, 3) := by decide +kernel
theorem dX9_lg_16 : decode cX9_lg 16 = .ok (.ifCond .eq 15, 3) := by decide +kernel
theorem dX9_lg_19 : decode cX9_lg 19 = .ok (.iload_n 2, 1) := by decide +kernel
theorem dX9_lg_20 : decode cX9_lg 20 = .ok (.invokestatic 96, 3) := by decide +kernel
theorem dX9_lg_23 : decode cX9_lg 23 = .ok (.iload_n 1, 1) := by decide +kernel
theorem dX9_lg_24 : decode cX9_lg 24 = .ok (.invokestatic 96, 3) := by decide +kernel
theorem dX9_lg_27 : decode cX9_lg 27 = .ok (.isub, 1) := by decide +kernel
theorem dX9_lg_28 : decode cX9_lg 28 = .ok (.goto 4, 3) := by decide +kernel
theorem dX9_lg_31 : decode cX9_lg 31 = .ok (.iconst (-1), 1) := by decide +kernel
theorem dX9_lg_32 : decode cX9_lg 32 = .ok (.ireturn, 1) := by decide +kernel
theorem dX9_undo_0 : decode cX9_undo 0 = .ok (.aload_n 0, 1) := by decide +kernel
theorem dX9_undo_1 : decode cX9_undo 1 = .ok (.getfield 36, 3) := by decide +kernel
theorem dX9_undo_4 : decode cX9_undo 4 = .ok (.ifCond .ne 6, 3) := by decide +kernel
theorem dX9_undo_7 : decode cX9_undo 7 = .ok (.bipush (-9), 2) := by decide +kernel
theorem dX9_undo_9 : decode cX9_undo 9 = .ok (.ireturn, 1) := by decide +kernel
theorem dX9_undo_10 : decode cX9_undo 10 = .ok (.aload_n 0, 1) := by decide +kernel
theorem dX9_undo_11 : decode cX9_undo 11 = .ok (.dup, 1) := by decide +kernel
theorem dX9_undo_12 : decode cX9_undo 12 = .ok (.getfield 36, 3) := by decide +kernel
theorem dX9_undo_15 : decode cX9_undo 15 = .ok (.iconst 1, 1) := by decide +kernel
theorem dX9_undo_16 : decode cX9_undo 16 = .ok (.isub, 1) := by decide +kernel
theorem dX9_undo_17 : decode cX9_undo 17 = .ok (.putfield 36, 3) := by decide +kernel
theorem dX9_undo_20 : decode cX9_undo 20 = .ok (.iconst 0, 1) := by decide +kernel
theorem dX9_undo_21 : decode cX9_undo 21 = .ok (.istore_n 1, 1) := by decide +kernel
theorem dX9_undo_22 : decode cX9_undo 22 = .ok (.iload_n 1, 1) := by decide +kernel
theorem dX9_undo_23 : decode cX9_undo 23 = .ok (.sipush 25700, 3) := by decide +kernel
theorem dX9_undo_26 : decode cX9_undo 26 = .ok (.if_icmp .ge 30, 3) := by decide +kernel
theorem dX9_undo_29 : decode cX9_undo 29 = .ok (.aload_n 0, 1) := by decide +kernel
theorem dX9_undo_30 : decode cX9_undo 30 = .ok (.getfield 7, 3) := by decide +kernel
theorem dX9_undo_33 : decode cX9_undo 33 = .ok (.iload_n 1, 1) := by decide +kernel
theorem dX9_undo_34 : decode cX9_undo 34 = .ok (.aload_n 0, 1) := by decide +kernel
theorem dX9_undo_35 : decode cX9_undo 35 = .ok (.getfield 17, 3) := by decide +kernel
theorem dX9_undo_38 : decode cX9_undo 38 = .ok (.sipush 25700, 3) := by decide +kernel
theorem dX9_undo_41 : decode cX9_undo 41 = .ok (.aload_n 0, 1) := by decide +kernel
theorem dX9_undo_42 : decode cX9_undo 42 = .ok (.getfield 36, 3) := by decide +kernel
theorem dX9_undo_45 : decode cX9_undo 45 = .ok (.imul, 1) := by decide +kernel
theorem dX9_undo_46 : decode cX9_undo 46 = .ok (.iload_n 1, 1) := by decide +kernel
theorem dX9_undo_47 : decode cX9_undo 47 = .ok (.iadd, 1) := by decide +kernel
theorem dX9_undo_48 : decode cX9_undo 48 = .ok (.iaload, 1) := by decide +kernel
theorem dX9_undo_49 : decode cX9_undo 49 = .ok (.iastore, 1) := by decide +kernel
theorem dX9_undo_50 : decode cX9_undo 50 = .ok (.iinc 1 1, 3) := by decide +kernel
theorem dX9_undo_53 : decode cX9_undo 53 = .ok (.goto (-31), 3) := by decide +kernel
theorem dX9_undo_56 : decode cX9_undo 56 = .ok (.aload_n 0, 1) := by decide +kernel
theorem dX9_undo_57 : decode cX9_undo 57 = .ok (.getfield 36, 3) := by decide +kernel
theorem dX9_undo_60 : decode cX9_undo 60 = .ok (.ireturn, 1) := by decide +kernel
theorem dX9_fingerprint_0 : decode cX9_fingerprint 0 = .ok (.ldc2_w 210, 3) := by decide +kernel
theorem dX9_fingerprint_3 : decode cX9_fingerprint 3 = .ok (.lstore_n 1, 1) := by decide +kernel
theorem dX9_fingerprint_4 : decode cX9_fingerprint 4 = .ok (.iconst 0, 1) := by decide +kernel
theorem dX9_fingerprint_5 : decode cX9_fingerprint 5 = .ok (.istore_n 3, 1) := by decide +kernel
theorem dX9_fingerprint_6 : decode cX9_fingerprint 6 = .ok (.iload_n 3, 1) := by decide +kernel
theorem dX9_fingerprint_7 : decode cX9_fingerprint 7 = .ok (.iconst 4, 1) := by decide +kernel
theorem dX9_fingerprint_8 : decode cX9_fingerprint 8 = .ok (.if_icmp .gt 23, 3) := by decide +kernel
theorem dX9_fingerprint_11 : decode cX9_fingerprint 11 = .ok (.ldc2_w 212, 3) := by decide +kernel
theorem dX9_fingerprint_14 : decode cX9_fingerprint 14 = .ok (.lload_n 1, 1) := by decide +kernel
theorem dX9_fingerprint_15 : decode cX9_fingerprint 15 = .ok (.lmul, 1) := by decide +kernel
theorem dX9_fingerprint_16 : decode cX9_fingerprint 16 = .ok (.aload_n 0, 1) := by decide +kernel
theorem dX9_fingerprint_17 : decode cX9_fingerprint 17 = .ok (.getfield 7, 3) := by decide +kernel
theorem dX9_fingerprint_20 : decode cX9_fingerprint 20 = .ok (.iload_n 3, 1) := by decide +kernel
theorem dX9_fingerprint_21 : decode cX9_fingerprint 21 = .ok (.iaload, 1) := by decide +kernel
theorem dX9_fingerprint_22 : decode cX9_fingerprint 22 = .ok (.i2l, 1) := by decide +kernel
theorem dX9_fingerprint_23 : decode cX9_fingerprint 23 = .ok (.ladd, 1) := by decide +kernel
theorem dX9_fingerprint_24 : decode cX9_fingerprint 24 = .ok (.lstore_n 1, 1) := by decide +kernel
theorem dX9_fingerprint_25 : decode cX9_fingerprint 25 = .ok (.iinc 3 1, 3) := by decide +kernel
theorem dX9_fingerprint_28 : decode cX9_fingerprint 28 = .ok (.goto (-22), 3) := by decide +kernel
theorem dX9_fingerprint_31 : decode cX9_fingerprint 31 = .ok (.ldc2_w 212, 3) := by decide +kernel
theorem dX9_fingerprint_34 : decode cX9_fingerprint 34 = .ok (.lload_n 1, 1) := by decide +kernel
theorem dX9_fingerprint_35 : decode cX9_fingerprint 35 = .ok (.lmul, 1) := by decide +kernel
theorem dX9_fingerprint_36 : decode cX9_fingerprint 36 = .ok (.aload_n 0, 1) := by decide +kernel
theorem dX9_fingerprint_37 : decode cX9_fingerprint 37 = .ok (.getfield 7, 3) := by decide +kernel
theorem dX9_fingerprint_40 : decode cX9_fingerprint 40 = .ok (.iconst 5, 1) := by decide +kernel
theorem dX9_fingerprint_41 : decode cX9_fingerprint 41 = .ok (.iaload, 1) := by decide +kernel
theorem dX9_fingerprint_42 : decode cX9_fingerprint 42 = .ok (.i2l, 1) := by decide +kernel
theorem dX9_fingerprint_43 : decode cX9_fingerprint 43 = .ok (.ladd, 1) := by decide +kernel
theorem dX9_fingerprint_44 : decode cX9_fingerprint 44 = .ok (.lstore_n 1, 1) := by decide +kernel
theorem dX9_fingerprint_45 : decode cX9_fingerprint 45 = .ok (.iconst 0, 1) := by decide +kernel
theorem dX9_fingerprint_46 : decode cX9_fingerprint 46 = .ok (.istore_n 3, 1) := by decide +kernel
theorem dX9_fingerprint_47 : decode cX9_fingerprint 47 = .ok (.iload_n 3, 1) := by decide +kernel
theorem dX9_fingerprint_48 : decode cX9_fingerprint 48 = .ok (.aload_n 0, 1) := by decide +kernel
theorem dX9_fingerprint_49 : decode cX9_fingerprint 49 = .ok (.getfield 7, 3) := by decide +kernel
theorem dX9_fingerprint_52 : decode cX9_fingerprint 52 = .ok (.iconst 5, 1) := by decide +kernel
theorem dX9_fingerprint_53 : decode cX9_fingerprint 53 = .ok (.iaload, 1) := by decide +kernel
theorem dX9_fingerprint_54 : decode cX9_fingerprint 54 = .ok (.if_icmp .ge 27, 3) := by decide +kernel
theorem dX9_fingerprint_57 : decode cX9_fingerprint 57 = .ok (.ldc2_w 212, 3) := by decide +kernel
theorem dX9_fingerprint_60 : decode cX9_fingerprint 60 = .ok (.lload_n 1, 1) := by decide +kernel
theorem dX9_fingerprint_61 : decode cX9_fingerprint 61 = .ok (.lmul, 1) := by decide +kernel
theorem dX9_fingerprint_62 : decode cX9_fingerprint 62 = .ok (.aload_n 0, 1) := by decide +kernel
theorem dX9_fingerprint_63 : decode cX9_fingerprint 63 = .ok (.getfield 7, 3) := by decide +kernel
theorem dX9_fingerprint_66 : decode cX9_fingerprint 66 = .ok (.sipush 24260, 3) := by decide +kernel
theorem dX9_fingerprint_69 : decode cX9_fingerprint 69 = .ok (.iload_n 3, 1) := by decide +kernel
theorem dX9_fingerprint_70 : decode cX9_fingerprint 70 = .ok (.iadd, 1) := by decide +kernel
theorem dX9_fingerprint_71 : decode cX9_fingerprint 71 = .ok (.iaload, 1) := by decide +kernel
theorem dX9_fingerprint_72 : decode cX9_fingerprint 72 = .ok (.i2l, 1) := by decide +kernel
theorem dX9_fingerprint_73 : decode cX9_fingerprint 73 = .ok (.ladd, 1) := by decide +kernel
theorem dX9_fingerprint_74 : decode cX9_fingerprint 74 = .ok (.lstore_n 1, 1) := by decide +kernel
theorem dX9_fingerprint_75 : decode cX9_fingerprint 75 = .ok (.iinc 3 1, 3) := by decide +kernel
theorem dX9_fingerprint_78 : decode cX9_fingerprint 78 = .ok (.goto (-31), 3) := by decide +kernel
theorem dX9_fingerprint_81 : decode cX9_fingerprint 81 = .ok (.ldc2_w 212, 3) := by decide +kernel
theorem dX9_fingerprint_84 : decode cX9_fingerprint 84 = .ok (.ldc2_w 212, 3) := by decide +kernel
theorem dX9_fingerprint_87 : decode cX9_fingerprint 87 = .ok (.ldc2_w 212, 3) := by decide +kernel
theorem dX9_fingerprint_90 : decode cX9_fingerprint 90 = .ok (.lload_n 1, 1) := by decide +kernel
theorem dX9_fingerprint_91 : decode cX9_fingerprint 91 = .ok (.lmul, 1) := by decide +kernel
theorem dX9_fingerprint_92 : decode cX9_fingerprint 92 = .ok (.aload_n 0, 1) := by decide +kernel
theorem dX9_fingerprint_93 : decode cX9_fingerprint 93 = .ok (.getfield 7, 3) := by decide +kernel
theorem dX9_fingerprint_96 : decode cX9_fingerprint 96 = .ok (.bipush 7, 2) := by decide +kernel
theorem dX9_fingerprint_98 : decode cX9_fingerprint 98 = .ok (.iaload, 1) := by decide +kernel
theorem dX9_fingerprint_99 : decode cX9_fingerprint 99 = .ok (.i2l, 1) := by decide +kernel
theorem dX9_fingerprint_100 : decode cX9_fingerprint 100 = .ok (.ladd, 1) := by decide +kernel
theorem dX9_fingerprint_101 : decode cX9_fingerprint 101 = .ok (.lmul, 1) := by decide +kernel
theorem dX9_fingerprint_102 : decode cX9_fingerprint 102 = .ok (.aload_n 0, 1) := by decide +kernel
theorem dX9_fingerprint_103 : decode cX9_fingerprint 103 = .ok (.getfield 7, 3) := by decide +kernel
theorem dX9_fingerprint_106 : decode cX9_fingerprint 106 = .ok (.bipush 8, 2) := by decide +kernel
theorem dX9_fingerprint_108 : decode cX9_fingerprint 108 = .ok (.iaload, 1) := by decide +kernel
theorem dX9_fingerprint_109 : decode cX9_fingerprint 109 = .ok (.i2l, 1) := by decide +kernel
theorem dX9_fingerprint_110 : decode cX9_fingerprint 110 = .ok (.ladd, 1) := by decide +kernel
theorem dX9_fingerprint_111 : decode cX9_fingerprint 111 = .ok (.lmul, 1) := by decide +kernel
theorem dX9_fingerprint_112 : decode cX9_fingerprint 112 = .ok (.aload_n 0, 1) := by decide +kernel
theorem dX9_fingerprint_113 : decode cX9_fingerprint 113 = .ok (.getfield 7, 3) := by decide +kernel
theorem dX9_fingerprint_116 : decode cX9_fingerprint 116 = .ok (.bipush 9, 2) := by decide +kernel
theorem dX9_fingerprint_118 : decode cX9_fingerprint 118 = .ok (.iaload, 1) := by decide +kernel
theorem dX9_fingerprint_119 : decode cX9_fingerprint 119 = .ok (.i2l, 1) := by decide +kernel
theorem dX9_fingerprint_120 : decode cX9_fingerprint 120 = .ok (.ladd, 1) := by decide +kernel
theorem dX9_fingerprint_121 : decode cX9_fingerprint 121 = .ok (.lstore_n 1, 1) := by decide +kernel
theorem dX9_fingerprint_122 : decode cX9_fingerprint 122 = .ok (.iconst 0, 1) := by decide +kernel
theorem dX9_fingerprint_123 : decode cX9_fingerprint 123 = .ok (.istore_n 3, 1) := by decide +kernel
theorem dX9_fingerprint_124 : decode cX9_fingerprint 124 = .ok (.iload_n 3, 1) := by decide +kernel
theorem dX9_fingerprint_125 : decode cX9_fingerprint 125 = .ok (.aload_n 0, 1) := by decide +kernel
theorem dX9_fingerprint_126 : decode cX9_fingerprint 126 = .ok (.getfield 7, 3) := by decide +kernel
theorem dX9_fingerprint_129 : decode cX9_fingerprint 129 = .ok (.bipush 9, 2) := by decide +kernel
theorem dX9_fingerprint_131 : decode cX9_fingerprint 131 = .ok (.iaload, 1) := by decide +kernel
theorem dX9_fingerprint_132 : decode cX9_fingerprint 132 = .ok (.if_icmp .ge 27, 3) := by decide +kernel
theorem dX9_fingerprint_135 : decode cX9_fingerprint 135 = .ok (.ldc2_w 212, 3) := by decide +kernel
theorem dX9_fingerprint_138 : decode cX9_fingerprint 138 = .ok (.lload_n 1, 1) := by decide +kernel
theorem dX9_fingerprint_139 : decode cX9_fingerprint 139 = .ok (.lmul, 1) := by decide +kernel
theorem dX9_fingerprint_140 : decode cX9_fingerprint 140 = .ok (.aload_n 0, 1) := by decide +kernel
theorem dX9_fingerprint_141 : decode cX9_fingerprint 141 = .ok (.getfield 7, 3) := by decide +kernel
theorem dX9_fingerprint_144 : decode cX9_fingerprint 144 = .ok (.sipush 25480, 3) := by decide +kernel
theorem dX9_fingerprint_147 : decode cX9_fingerprint 147 = .ok (.iload_n 3, 1) := by decide +kernel
theorem dX9_fingerprint_148 : decode cX9_fingerprint 148 = .ok (.iadd, 1) := by decide +kernel
theorem dX9_fingerprint_149 : decode cX9_fingerprint 149 = .ok (.iaload, 1) := by decide +kernel
theorem dX9_fingerprint_150 : decode cX9_fingerprint 150 = .ok (.i2l, 1) := by decide +kernel
theorem dX9_fingerprint_151 : decode cX9_fingerprint 151 = .ok (.ladd, 1) := by decide +kernel
theorem dX9_fingerprint_152 : decode cX9_fingerprint 152 = .ok (.lstore_n 1, 1) := by decide +kernel
theorem dX9_fingerprint_153 : decode cX9_fingerprint 153 = .ok (.iinc 3 1, 3) := by decide +kernel
theorem dX9_fingerprint_156 : decode cX9_fingerprint 156 = .ok (.goto (-32), 3) := by decide +kernel
theorem dX9_fingerprint_159 : decode cX9_fingerprint 159 = .ok (.lload_n 1, 1) := by decide +kernel
theorem dX9_fingerprint_160 : decode cX9_fingerprint 160 = .ok (.lreturn, 1) := by decide +kernel
theorem dJ9_max_7cf53_0 : decode cJ9_max_7cf53 0 = .ok (.iload_n 0, 1) := by decide +kernel
theorem dJ9_max_7cf53_1 : decode cJ9_max_7cf53 1 = .ok (.iload_n 1, 1) := by decide +kernel
theorem dJ9_max_7cf53_2 : decode cJ9_max_7cf53 2 = .ok (.if_icmp .lt 7, 3) := by decide +kernel
theorem dJ9_max_7cf53_5 : decode cJ9_max_7cf53 5 = .ok (.iload_n 0, 1) := by decide +kernel
theorem dJ9_max_7cf53_6 : decode cJ9_max_7cf53 6 = .ok (.goto 4, 3) := by decide +kernel
theorem dJ9_max_7cf53_9 : decode cJ9_max_7cf53 9 = .ok (.iload_n 1, 1) := by decide +kernel
theorem dJ9_max_7cf53_10 : decode cJ9_max_7cf53 10 = .ok (.ireturn, 1) := by decide +kernel
theorem dJ9_min_7cf53_0 : decode cJ9_min_7cf53 0 = .ok (.iload_n 0, 1) := by decide +kernel
theorem dJ9_min_7cf53_1 : decode cJ9_min_7cf53 1 = .ok (.iload_n 1, 1) := by decide +kernel
theorem dJ9_min_7cf53_2 : decode cJ9_min_7cf53 2 = .ok (.if_icmp .gt 7, 3) := by decide +kernel
theorem dJ9_min_7cf53_5 : decode cJ9_min_7cf53 5 = .ok (.iload_n 0, 1) := by decide +kernel
theorem dJ9_min_7cf53_6 : decode cJ9_min_7cf53 6 = .ok (.goto 4, 3) := by decide +kernel
theorem dJ9_min_7cf53_9 : decode cJ9_min_7cf53 9 = .ok (.iload_n 1, 1) := by decide +kernel
theorem dJ9_min_7cf53_10 : decode cJ9_min_7cf53 10 = .ok (.ireturn, 1) := by decide +kernel
theorem dJ9_min_f86c9_0 : decode cJ9_min_f86c9 0 = .ok (.lload_n 0, 1) := by decide +kernel
theorem dJ9_min_f86c9_1 : decode cJ9_min_f86c9 1 = .ok (.lload_n 2, 1) := by decide +kernel
theorem dJ9_min_f86c9_2 : decode cJ9_min_f86c9 2 = .ok (.lcmp, 1) := by decide +kernel
theorem dJ9_min_f86c9_3 : decode cJ9_min_f86c9 3 = .ok (.ifCond .gt 7, 3) := by decide +kernel
theorem dJ9_min_f86c9_6 : decode cJ9_min_f86c9 6 = .ok (.lload_n 0, 1) := by decide +kernel
theorem dJ9_min_f86c9_7 : decode cJ9_min_f86c9 7 = .ok (.goto 4, 3) := by decide +kernel
theorem dJ9_min_f86c9_10 : decode cJ9_min_f86c9 10 = .ok (.lload_n 2, 1) := by decide +kernel
theorem dJ9_min_f86c9_11 : decode cJ9_min_f86c9 11 = .ok (.lreturn, 1) := by decide +kernel
theorem dL_cell_0 : decode cL_cell 0 = .ok (.iload_n 1, 1) := by decide +kernel
theorem dL_cell_1 : decode cL_cell 1 = .ok (.aload_n 0, 1) := by decide +kernel
theorem dL_cell_2 : decode cL_cell 2 = .ok (.arraylength, 1) := by decide +kernel
theorem dL_cell_3 : decode cL_cell 3 = .ok (.if_icmp .ge 9, 3) := by decide +kernel
theorem dL_cell_6 : decode cL_cell 6 = .ok (.aload_n 0, 1) := by decide +kernel
theorem dL_cell_7 : decode cL_cell 7 = .ok (.iload_n 1, 1) := by decide +kernel
theorem dL_cell_8 : decode cL_cell 8 = .ok (.iaload, 1) := by decide +kernel
theorem dL_cell_9 : decode cL_cell 9 = .ok (.goto 4, 3) := by decide +kernel
theorem dL_cell_12 : decode cL_cell 12 = .ok (.iconst 0, 1) := by decide +kernel
theorem dL_cell_13 : decode cL_cell 13 = .ok (.ireturn, 1) := by decide +kernel
theorem dL_law_0 : decode cL_law 0 = .ok (.new 7, 3) := by decide +kernel
theorem dL_law_3 : decode cL_law 3 = .ok (.dup, 1) := by decide +kernel
theorem dL_law_4 : decode cL_law 4 = .ok (.aload_n 0, 1) := by decide +kernel
theorem dL_law_5 : decode cL_law 5 = .ok (.iconst 0, 1) := by decide +kernel
theorem dL_law_6 : decode cL_law 6 = .ok (.invokestatic 9, 3) := by decide +kernel
theorem dL_law_9 : decode cL_law 9 = .ok (.invokespecial 15, 3) := by decide +kernel
theorem dL_law_12 : decode cL_law 12 = .ok (.astore_n 1, 1) := by decide +kernel
theorem dL_law_13 : decode cL_law 13 = .ok (.new 18, 3) := by decide +kernel
theorem dL_law_16 : decode cL_law 16 = .ok (.dup, 1) := by decide +kernel
theorem dL_law_17 : decode cL_law 17 = .ok (.aload_n 0, 1) := by decide +kernel
theorem dL_law_18 : decode cL_law 18 = .ok (.iconst 0, 1) := by decide +kernel
theorem dL_law_19 : decode cL_law 19 = .ok (.invokestatic 9, 3) := by decide +kernel
theorem dL_law_22 : decode cL_law 22 = .ok (.invokespecial 20, 3) := by decide +kernel
theorem dL_law_25 : decode cL_law 25 = .ok (.astore_n 2, 1) := by decide +kernel
theorem dL_law_26 : decode cL_law 26 = .ok (.iconst 1, 1) := by decide +kernel
theorem dL_law_27 : decode cL_law 27 = .ok (.istore_n 3, 1) := by decide +kernel
theorem dL_law_28 : decode cL_law 28 = .ok (.iload_n 3, 1) := by decide +kernel
theorem dL_law_29 : decode cL_law 29 = .ok (.aload_n 0, 1) := by decide +kernel
theorem dL_law_30 : decode cL_law 30 = .ok (.arraylength, 1) := by decide +kernel
theorem dL_law_31 : decode cL_law 31 = .ok (.iconst 3, 1) := by decide +kernel
theorem dL_law_32 : decode cL_law 32 = .ok (.isub, 1) := by decide +kernel
theorem dL_law_33 : decode cL_law 33 = .ok (.if_icmp .gt 722, 3) := by decide +kernel
theorem dL_law_36 : decode cL_law 36 = .ok (.aload_n 0, 1) := by decide +kernel
theorem dL_law_37 : decode cL_law 37 = .ok (.iload_n 3, 1) := by decide +kernel
theorem dL_law_38 : decode cL_law 38 = .ok (.iaload, 1) := by decide +kernel
theorem dL_law_39 : decode cL_law 39 = .ok (.bipush 31, 2) := by decide +kernel
theorem dL_law_41 : decode cL_law 41 = .ok (.iand, 1) := by decide +kernel
theorem dL_law_42 : decode cL_law 42 = .ok (.tableswitch 707 0 27 #[126, 149, 188, 211, 234, 247, 260, 273, 306, 329, 352, 365, 388, 411, 424, 437, 460, 473, 486, 509, 542, 565, 588, 601, 634, 647, 680, 693], 126) := by decide +kernel
theorem dL_law_168 : decode cL_law 168 = .ok (.aload_n 1, 1) := by decide +kernel
theorem dL_law_169 : decode cL_law 169 = .ok (.aload_n 0, 1) := by decide +kernel
theorem dL_law_170 : decode cL_law 170 = .ok (.iload_n 3, 1) := by decide +kernel
theorem dL_law_171 : decode cL_law 171 = .ok (.iconst 1, 1) := by decide +kernel
theorem dL_law_172 : decode cL_law 172 = .ok (.iadd, 1) := by decide +kernel
theorem dL_law_173 : decode cL_law 173 = .ok (.iaload, 1) := by decide +kernel
theorem dL_law_174 : decode cL_law 174 = .ok (.invokevirtual 21, 3) := by decide +kernel
theorem dL_law_177 : decode cL_law 177 = .ok (.aload_n 2, 1) := by decide +kernel
theorem dL_law_178 : decode cL_law 178 = .ok (.aload_n 0, 1) := by decide +kernel
theorem dL_law_179 : decode cL_law 179 = .ok (.iload_n 3, 1) := by decide +kernel
theorem dL_law_180 : decode cL_law 180 = .ok (.iconst 1, 1) := by decide +kernel
theorem dL_law_181 : decode cL_law 181 = .ok (.iadd, 1) := by decide +kernel
theorem dL_law_182 : decode cL_law 182 = .ok (.iaload, 1) := by decide +kernel
theorem dL_law_183 : decode cL_law 183 = .ok (.invokevirtual 25, 3) := by decide +kernel
theorem dL_law_186 : decode cL_law 186 = .ok (.if_icmp .eq 563, 3) := by decide +kernel
theorem dL_law_189 : decode cL_law 189 = .ok (.iconst 0, 1) := by decide +kernel
theorem dL_law_190 : decode cL_law 190 = .ok (.ireturn, 1) := by decide +kernel
theorem dL_law_191 : decode cL_law 191 = .ok (.aload_n 1, 1) := by decide +kernel
theorem dL_law_192 : decode cL_law 192 = .ok (.aload_n 0, 1) := by decide +kernel
theorem dL_law_193 : decode cL_law 193 = .ok (.iload_n 3, 1) := by decide +kernel
theorem dL_law_194 : decode cL_law 194 = .ok (.iconst 1, 1) := by decide +kernel
theorem dL_law_195 : decode cL_law 195 = .ok (.iadd, 1) := by decide +kernel
theorem dL_law_196 : decode cL_law 196 = .ok (.iaload, 1) := by decide +kernel
theorem dL_law_197 : decode cL_law 197 = .ok (.ifCond .eq 7, 3) := by decide +kernel
theorem dL_law_200 : decode cL_law 200 = .ok (.iconst 1, 1) := by decide +kernel
theorem dL_law_201 : decode cL_law 201 = .ok (.goto 4, 3) := by decide +kernel
theorem dL_law_204 : decode cL_law 204 = .ok (.iconst 0, 1) := by decide +kernel
theorem dL_law_205 : decode cL_law 205 = .ok (.invokevirtual 26, 3) := by decide +kernel
theorem dL_law_208 : decode cL_law 208 = .ok (.aload_n 2, 1) := by decide +kernel
theorem dL_law_209 : decode cL_law 209 = .ok (.aload_n 0, 1) := by decide +kernel
theorem dL_law_210 : decode cL_law 210 = .ok (.iload_n 3, 1) := by decide +kernel
theorem dL_law_211 : decode cL_law 211 = .ok (.iconst 1, 1) := by decide +kernel
theorem dL_law_212 : decode cL_law 212 = .ok (.iadd, 1) := by decide +kernel
theorem dL_law_213 : decode cL_law 213 = .ok (.iaload, 1) := by decide +kernel
theorem dL_law_214 : decode cL_law 214 = .ok (.ifCond .eq 7, 3) := by decide +kernel
theorem dL_law_217 : decode cL_law 217 = .ok (.iconst 1, 1) := by decide +kernel
theorem dL_law_218 : decode cL_law 218 = .ok (.goto 4, 3) := by decide +kernel
theorem dL_law_221 : decode cL_law 221 = .ok (.iconst 0, 1) := by decide +kernel
theorem dL_law_222 : decode cL_law 222 = .ok (.invokevirtual 30, 3) := by decide +kernel
theorem dL_law_225 : decode cL_law 225 = .ok (.if_icmp .eq 524, 3) := by decide +kernel
theorem dL_law_228 : decode cL_law 228 = .ok (.iconst 0, 1) := by decide +kernel
theorem dL_law_229 : decode cL_law 229 = .ok (.ireturn, 1) := by decide +kernel
theorem dL_law_230 : decode cL_law 230 = .ok (.aload_n 1, 1) := by decide +kernel
theorem dL_law_231 : decode cL_law 231 = .ok (.aload_n 0, 1) := by decide +kernel
theorem dL_law_232 : decode cL_law 232 = .ok (.iload_n 3, 1) := by decide +kernel
theorem dL_law_233 : decode cL_law 233 = .ok (.iconst 1, 1) := by decide +kernel
theorem dL_law_234 : decode cL_law 234 = .ok (.iadd, 1) := by decide +kernel
theorem dL_law_235 : decode cL_law 235 = .ok (.iaload, 1) := by decide +kernel
theorem dL_law_236 : decode cL_law 236 = .ok (.invokevirtual 31, 3) := by decide +kernel
theorem dL_law_239 : decode cL_law 239 = .ok (.aload_n 2, 1) := by decide +kernel
theorem dL_law_240 : decode cL_law 240 = .ok (.aload_n 0, 1) := by decide +kernel
theorem dL_law_241 : decode cL_law 241 = .ok (.iload_n 3, 1) := by decide +kernel
theorem dL_law_242 : decode cL_law 242 = .ok (.iconst 1, 1) := by decide +kernel
theorem dL_law_243 : decode cL_law 243 = .ok (.iadd, 1) := by decide +kernel
theorem dL_law_244 : decode cL_law 244 = .ok (.iaload, 1) := by decide +kernel
theorem dL_law_245 : decode cL_law 245 = .ok (.invokevirtual 34, 3) := by decide +kernel
theorem dL_law_248 : decode cL_law 248 = .ok (.if_icmp .eq 501, 3) := by decide +kernel
theorem dL_law_251 : decode cL_law 251 = .ok (.iconst 0, 1) := by decide +kernel
theorem dL_law_252 : decode cL_law 252 = .ok (.ireturn, 1) := by decide +kernel
theorem dL_law_253 : decode cL_law 253 = .ok (.aload_n 1, 1) := by decide +kernel
theorem dL_law_254 : decode cL_law 254 = .ok (.aload_n 0, 1) := by decide +kernel
theorem dL_law_255 : decode cL_law 255 = .ok (.iload_n 3, 1) := by decide +kernel
theorem dL_law_256 : decode cL_law 256 = .ok (.iconst 1, 1) := by decide +kernel
theorem dL_law_257 : decode cL_law 257 = .ok (.iadd, 1) := by decide +kernel
theorem dL_law_258 : decode cL_law 258 = .ok (.iaload, 1) := by decide +kernel
theorem dL_law_259 : decode cL_law 259 = .ok (.invokevirtual 35, 3) := by decide +kernel
theorem dL_law_262 : decode cL_law 262 = .ok (.aload_n 2, 1) := by decide +kernel
theorem dL_law_263 : decode cL_law 263 = .ok (.aload_n 0, 1) := by decide +kernel
theorem dL_law_264 : decode cL_law 264 = .ok (.iload_n 3, 1) := by decide +kernel
theorem dL_law_265 : decode cL_law 265 = .ok (.iconst 1, 1) := by decide +kernel
theorem dL_law_266 : decode cL_law 266 = .ok (.iadd, 1) := by decide +kernel
theorem dL_law_267 : decode cL_law 267 = .ok (.iaload, 1) := by decide +kernel
theorem dL_law_268 : decode cL_law 268 = .ok (.invokevirtual 38, 3) := by decide +kernel
theorem dL_law_271 : decode cL_law 271 = .ok (.if_icmp .eq 478, 3) := by decide +kernel
theorem dL_law_274 : decode cL_law 274 = .ok (.iconst 0, 1) := by decide +kernel
theorem dL_law_275 : decode cL_law 275 = .ok (.ireturn, 1) := by decide +kernel
theorem dL_law_276 : decode cL_law 276 = .ok (.aload_n 1, 1) := by decide +kernel
theorem dL_law_277 : decode cL_law 277 = .ok (.invokevirtual 39, 3) := by decide +kernel
theorem dL_law_280 : decode cL_law 280 = .ok (.aload_n 2, 1) := by decide +kernel
theorem dL_law_281 : decode cL_law 281 = .ok (.invokevirtual 43, 3) := by decide +kernel
theorem dL_law_284 : decode cL_law 284 = .ok (.if_icmp .eq 465, 3) := by decide +kernel
theorem dL_law_287 : decode cL_law 287 = .ok (.iconst 0, 1) := by decide +kernel
theorem dL_law_288 : decode cL_law 288 = .ok (.ireturn, 1) := by decide +kernel
theorem dL_law_289 : decode cL_law 289 = .ok (.aload_n 1, 1) := by decide +kernel
theorem dL_law_290 : decode cL_law 290 = .ok (.invokevirtual 44, 3) := by decide +kernel
theorem dL_law_293 : decode cL_law 293 = .ok (.aload_n 2, 1) := by decide +kernel
theorem dL_law_294 : decode cL_law 294 = .ok (.invokevirtual 47, 3) := by decide +kernel
theorem dL_law_297 : decode cL_law 297 = .ok (.if_icmp .eq 452, 3) := by decide +kernel
theorem dL_law_300 : decode cL_law 300 = .ok (.iconst 0, 1) := by decide +kernel
theorem dL_law_301 : decode cL_law 301 = .ok (.ireturn, 1) := by decide +kernel
theorem dL_law_302 : decode cL_law 302 = .ok (.aload_n 1, 1) := by decide +kernel
theorem dL_law_303 : decode cL_law 303 = .ok (.invokevirtual 48, 3) := by decide +kernel
theorem dL_law_306 : decode cL_law 306 = .ok (.aload_n 2, 1) := by decide +kernel
theorem dL_law_307 : decode cL_law 307 = .ok (.invokevirtual 51, 3) := by decide +kernel
theorem dL_law_310 : decode cL_law 310 = .ok (.if_icmp .eq 439, 3) := by decide +kernel
theorem dL_law_313 : decode cL_law 313 = .ok (.iconst 0, 1) := by decide +kernel
theorem dL_law_314 : decode cL_law 314 = .ok (.ireturn, 1) := by decide +kernel
theorem dL_law_315 : decode cL_law 315 = .ok (.aload_n 1, 1) := by decide +kernel
theorem dL_law_316 : decode cL_law 316 = .ok (.aload_n 0, 1) := by decide +kernel
theorem dL_law_317 : decode cL_law 317 = .ok (.iload_n 3, 1) := by decide +kernel
theorem dL_law_318 : decode cL_law 318 = .ok (.iconst 1, 1) := by decide +kernel
theorem dL_law_319 : decode cL_law 319 = .ok (.iadd, 1) := by decide +kernel
theorem dL_law_320 : decode cL_law 320 = .ok (.iaload, 1) := by decide +kernel
theorem dL_law_321 : decode cL_law 321 = .ok (.aload_n 0, 1) := by decide +kernel
theorem dL_law_322 : decode cL_law 322 = .ok (.iload_n 3, 1) := by decide +kernel
theorem dL_law_323 : decode cL_law 323 = .ok (.iconst 2, 1) := by decide +kernel
theorem dL_law_324 : decode cL_law 324 = .ok (.iadd, 1) := by decide +kernel
theorem dL_law_325 : decode cL_law 325 = .ok (.iaload, 1) := by decide +kernel
theorem dL_law_326 : decode cL_law 326 = .ok (.invokevirtual 52, 3) := by decide +kernel
theorem dL_law_329 : decode cL_law 329 = .ok (.aload_n 2, 1) := by decide +kernel
theorem dL_law_330 : decode cL_law 330 = .ok (.aload_n 0, 1) := by decide +kernel
theorem dL_law_331 : decode cL_law 331 = .ok (.iload_n 3, 1) := by decide +kernel
theorem dL_law_332 : decode cL_law 332 = .ok (.iconst 1, 1) := by decide +kernel
theorem dL_law_333 : decode cL_law 333 = .ok (.iadd, 1) := by decide +kernel
theorem dL_law_334 : decode cL_law 334 = .ok (.iaload, 1) := by decide +kernel
theorem dL_law_335 : decode cL_law 335 = .ok (.aload_n 0, 1) := by decide +kernel
theorem dL_law_336 : decode cL_law 336 = .ok (.iload_n 3, 1) := by decide +kernel
theorem dL_law_337 : decode cL_law 337 = .ok (.iconst 2, 1) := by decide +kernel
theorem dL_law_338 : decode cL_law 338 = .ok (.iadd, 1) := by decide +kernel
theorem dL_law_339 : decode cL_law 339 = .ok (.iaload, 1) := by decide +kernel
theorem dL_law_340 : decode cL_law 340 = .ok (.invokevirtual 56, 3) := by decide +kernel
theorem dL_law_343 : decode cL_law 343 = .ok (.if_icmp .eq 406, 3) := by decide +kernel
theorem dL_law_346 : decode cL_law 346 = .ok (.iconst 0, 1) := by decide +kernel
theorem dL_law_347 : decode cL_law 347 = .ok (.ireturn, 1) := by decide +kernel
theorem dL_law_348 : decode cL_law 348 = .ok (.aload_n 1, 1) := by decide +kernel
theorem dL_law_349 : decode cL_law 349 = .ok (.aload_n 0, 1) := by decide +kernel
theorem dL_law_350 : decode cL_law 350 = .ok (.iload_n 3, 1) := by decide +kernel
theorem dL_law_351 : decode cL_law 351 = .ok (.iconst 1, 1) := by decide +kernel
theorem dL_law_352 : decode cL_law 352 = .ok (.iadd, 1) := by decide +kernel
theorem dL_law_353 : decode cL_law 353 = .ok (.iaload, 1) := by decide +kernel
theorem dL_law_354 : decode cL_law 354 = .ok (.invokevirtual 57, 3) := by decide +kernel
theorem dL_law_357 : decode cL_law 357 = .ok (.aload_n 2, 1) := by decide +kernel
theorem dL_law_358 : decode cL_law 358 = .ok (.aload_n 0, 1) := by decide +kernel
theorem dL_law_359 : decode cL_law 359 = .ok (.iload_n 3, 1) := by decide +kernel
theorem dL_law_360 : decode cL_law 360 = .ok (.iconst 1, 1) := by decide +kernel
theorem dL_law_361 : decode cL_law 361 = .ok (.iadd, 1) := by decide +kernel
theorem dL_law_362 : decode cL_law 362 = .ok (.iaload, 1) := by decide +kernel
theorem dL_law_363 : decode cL_law 363 = .ok (.invokevirtual 60, 3) := by decide +kernel
theorem dL_law_366 : decode cL_law 366 = .ok (.if_icmp .eq 383, 3) := by decide +kernel
theorem dL_law_369 : decode cL_law 369 = .ok (.iconst 0, 1) := by decide +kernel
theorem dL_law_370 : decode cL_law 370 = .ok (.ireturn, 1) := by decide +kernel
theorem dL_law_371 : decode cL_law 371 = .ok (.aload_n 1, 1) := by decide +kernel
theorem dL_law_372 : decode cL_law 372 = .ok (.aload_n 0, 1) := by decide +kernel
theorem dL_law_373 : decode cL_law 373 = .ok (.iload_n 3, 1) := by decide +kernel
theorem dL_law_374 : decode cL_law 374 = .ok (.iconst 1, 1) := by decide +kernel
theorem dL_law_375 : decode cL_law 375 = .ok (.iadd, 1) := by decide +kernel
theorem dL_law_376 : decode cL_law 376 = .ok (.iaload, 1) := by decide +kernel
theorem dL_law_377 : decode cL_law 377 = .ok (.invokevirtual 61, 3) := by decide +kernel
theorem dL_law_380 : decode cL_law 380 = .ok (.aload_n 2, 1) := by decide +kernel
theorem dL_law_381 : decode cL_law 381 = .ok (.aload_n 0, 1) := by decide +kernel
theorem dL_law_382 : decode cL_law 382 = .ok (.iload_n 3, 1) := by decide +kernel
theorem dL_law_383 : decode cL_law 383 = .ok (.iconst 1, 1) := by decide +kernel
theorem dL_law_384 : decode cL_law 384 = .ok (.iadd, 1) := by decide +kernel
theorem dL_law_385 : decode cL_law 385 = .ok (.iaload, 1) := by decide +kernel
theorem dL_law_386 : decode cL_law 386 = .ok (.invokevirtual 64, 3) := by decide +kernel
theorem dL_law_389 : decode cL_law 389 = .ok (.if_icmp .eq 360, 3) := by decide +kernel
theorem dL_law_392 : decode cL_law 392 = .ok (.iconst 0, 1) := by decide +kernel
theorem dL_law_393 : decode cL_law 393 = .ok (.ireturn, 1) := by decide +kernel
theorem dL_law_394 : decode cL_law 394 = .ok (.aload_n 1, 1) := by decide +kernel
theorem dL_law_395 : decode cL_law 395 = .ok (.invokevirtual 65, 3) := by decide +kernel
theorem dL_law_398 : decode cL_law 398 = .ok (.aload_n 2, 1) := by decide +kernel
theorem dL_law_399 : decode cL_law 399 = .ok (.invokevirtual 68, 3) := by decide +kernel
theorem dL_law_402 : decode cL_law 402 = .ok (.if_icmp .eq 347, 3) := by decide +kernel
theorem dL_law_405 : decode cL_law 405 = .ok (.iconst 0, 1) := by decide +kernel
theorem dL_law_406 : decode cL_law 406 = .ok (.ireturn, 1) := by decide +kernel
theorem dL_law_407 : decode cL_law 407 = .ok (.aload_n 1, 1) := by decide +kernel
theorem dL_law_408 : decode cL_law 408 = .ok (.aload_n 0, 1) := by decide +kernel
theorem dL_law_409 : decode cL_law 409 = .ok (.iload_n 3, 1) := by decide +kernel
theorem dL_law_410 : decode cL_law 410 = .ok (.iconst 1, 1) := by decide +kernel
theorem dL_law_411 : decode cL_law 411 = .ok (.iadd, 1) := by decide +kernel
theorem dL_law_412 : decode cL_law 412 = .ok (.iaload, 1) := by decide +kernel
theorem dL_law_413 : decode cL_law 413 = .ok (.invokevirtual 69, 3) := by decide +kernel
theorem dL_law_416 : decode cL_law 416 = .ok (.aload_n 2, 1) := by decide +kernel
theorem dL_law_417 : decode cL_law 417 = .ok (.aload_n 0, 1) := by decide +kernel
theorem dL_law_418 : decode cL_law 418 = .ok (.iload_n 3, 1) := by decide +kernel
theorem dL_law_419 : decode cL_law 419 = .ok (.iconst 1, 1) := by decide +kernel
theorem dL_law_420 : decode cL_law 420 = .ok (.iadd, 1) := by decide +kernel
theorem dL_law_421 : decode cL_law 421 = .ok (.iaload, 1) := by decide +kernel
theorem dL_law_422 : decode cL_law 422 = .ok (.invokevirtual 72, 3) := by decide +kernel
theorem dL_law_425 : decode cL_law 425 = .ok (.if_icmp .eq 324, 3) := by decide +kernel
theorem dL_law_428 : decode cL_law 428 = .ok (.iconst 0, 1) := by decide +kernel
theorem dL_law_429 : decode cL_law 429 = .ok (.ireturn, 1) := by decide +kernel
theorem dL_law_430 : decode cL_law 430 = .ok (.aload_n 1, 1) := by decide +kernel
theorem dL_law_431 : decode cL_law 431 = .ok (.aload_n 0, 1) := by decide +kernel
theorem dL_law_432 : decode cL_law 432 = .ok (.iload_n 3, 1) := by decide +kernel
theorem dL_law_433 : decode cL_law 433 = .ok (.iconst 1, 1) := by decide +kernel
theorem dL_law_434 : decode cL_law 434 = .ok (.iadd, 1) := by decide +kernel
theorem dL_law_435 : decode cL_law 435 = .ok (.iaload, 1) := by decide +kernel
theorem dL_law_436 : decode cL_law 436 = .ok (.invokevirtual 73, 3) := by decide +kernel
theorem dL_law_439 : decode cL_law 439 = .ok (.aload_n 2, 1) := by decide +kernel
theorem dL_law_440 : decode cL_law 440 = .ok (.aload_n 0, 1) := by decide +kernel
theorem dL_law_441 : decode cL_law 441 = .ok (.iload_n 3, 1) := by decide +kernel
theorem dL_law_442 : decode cL_law 442 = .ok (.iconst 1, 1) := by decide +kernel
theorem dL_law_443 : decode cL_law 443 = .ok (.iadd, 1) := by decide +kernel
theorem dL_law_444 : decode cL_law 444 = .ok (.iaload, 1) := by decide +kernel
theorem dL_law_445 : decode cL_law 445 = .ok (.invokevirtual 76, 3) := by decide +kernel
theorem dL_law_448 : decode cL_law 448 = .ok (.if_icmp .eq 301, 3) := by decide +kernel
theorem dL_law_451 : decode cL_law 451 = .ok (.iconst 0, 1) := by decide +kernel
theorem dL_law_452 : decode cL_law 452 = .ok (.ireturn, 1) := by decide +kernel
theorem dL_law_453 : decode cL_law 453 = .ok (.aload_n 1, 1) := by decide +kernel
theorem dL_law_454 : decode cL_law 454 = .ok (.invokevirtual 77, 3) := by decide +kernel
theorem dL_law_457 : decode cL_law 457 = .ok (.aload_n 2, 1) := by decide +kernel
theorem dL_law_458 : decode cL_law 458 = .ok (.invokevirtual 80, 3) := by decide +kernel
theorem dL_law_461 : decode cL_law 461 = .ok (.if_icmp .eq 288, 3) := by decide +kernel
theorem dL_law_464 : decode cL_law 464 = .ok (.iconst 0, 1) := by decide +kernel
theorem dL_law_465 : decode cL_law 465 = .ok (.ireturn, 1) := by decide +kernel
theorem dL_law_466 : decode cL_law 466 = .ok (.aload_n 1, 1) := by decide +kernel
theorem dL_law_467 : decode cL_law 467 = .ok (.invokevirtual 81, 3) := by decide +kernel
theorem dL_law_470 : decode cL_law 470 = .ok (.aload_n 2, 1) := by decide +kernel
theorem dL_law_471 : decode cL_law 471 = .ok (.invokevirtual 84, 3) := by decide +kernel
theorem dL_law_474 : decode cL_law 474 = .ok (.if_icmp .eq 275, 3) := by decide +kernel
theorem dL_law_477 : decode cL_law 477 = .ok (.iconst 0, 1) := by decide +kernel
theorem dL_law_478 : decode cL_law 478 = .ok (.ireturn, 1) := by decide +kernel
theorem dL_law_479 : decode cL_law 479 = .ok (.aload_n 1, 1) := by decide +kernel
theorem dL_law_480 : decode cL_law 480 = .ok (.aload_n 0, 1) := by decide +kernel
theorem dL_law_481 : decode cL_law 481 = .ok (.iload_n 3, 1) := by decide +kernel
theorem dL_law_482 : decode cL_law 482 = .ok (.iconst 1, 1) := by decide +kernel
theorem dL_law_483 : decode cL_law 483 = .ok (.iadd, 1) := by decide +kernel
theorem dL_law_484 : decode cL_law 484 = .ok (.iaload, 1) := by decide +kernel
theorem dL_law_485 : decode cL_law 485 = .ok (.invokevirtual 85, 3) := by decide +kernel
theorem dL_law_488 : decode cL_law 488 = .ok (.aload_n 2, 1) := by decide +kernel
theorem dL_law_489 : decode cL_law 489 = .ok (.aload_n 0, 1) := by decide +kernel
theorem dL_law_490 : decode cL_law 490 = .ok (.iload_n 3, 1) := by decide +kernel
theorem dL_law_491 : decode cL_law 491 = .ok (.iconst 1, 1) := by decide +kernel
theorem dL_law_492 : decode cL_law 492 = .ok (.iadd, 1) := by decide +kernel
theorem dL_law_493 : decode cL_law 493 = .ok (.iaload, 1) := by decide +kernel
theorem dL_law_494 : decode cL_law 494 = .ok (.invokevirtual 88, 3) := by decide +kernel
theorem dL_law_497 : decode cL_law 497 = .ok (.if_icmp .eq 252, 3) := by decide +kernel
theorem dL_law_500 : decode cL_law 500 = .ok (.iconst 0, 1) := by decide +kernel
theorem dL_law_501 : decode cL_law 501 = .ok (.ireturn, 1) := by decide +kernel
theorem dL_law_502 : decode cL_law 502 = .ok (.aload_n 1, 1) := by decide +kernel
theorem dL_law_503 : decode cL_law 503 = .ok (.invokevirtual 89, 3) := by decide +kernel
theorem dL_law_506 : decode cL_law 506 = .ok (.aload_n 2, 1) := by decide +kernel
theorem dL_law_507 : decode cL_law 507 = .ok (.invokevirtual 92, 3) := by decide +kernel
theorem dL_law_510 : decode cL_law 510 = .ok (.if_icmp .eq 239, 3) := by decide +kernel
theorem dL_law_513 : decode cL_law 513 = .ok (.iconst 0, 1) := by decide +kernel
theorem dL_law_514 : decode cL_law 514 = .ok (.ireturn, 1) := by decide +kernel
theorem dL_law_515 : decode cL_law 515 = .ok (.aload_n 1, 1) := by decide +kernel
theorem dL_law_516 : decode cL_law 516 = .ok (.invokevirtual 93, 3) := by decide +kernel
theorem dL_law_519 : decode cL_law 519 = .ok (.aload_n 2, 1) := by decide +kernel
theorem dL_law_520 : decode cL_law 520 = .ok (.invokevirtual 96, 3) := by decide +kernel
theorem dL_law_523 : decode cL_law 523 = .ok (.if_icmp .eq 226, 3) := by decide +kernel
theorem dL_law_526 : decode cL_law 526 = .ok (.iconst 0, 1) := by decide +kernel
theorem dL_law_527 : decode cL_law 527 = .ok (.ireturn, 1) := by decide +kernel
theorem dL_law_528 : decode cL_law 528 = .ok (.aload_n 1, 1) := by decide +kernel
theorem dL_law_529 : decode cL_law 529 = .ok (.aload_n 0, 1) := by decide +kernel
theorem dL_law_530 : decode cL_law 530 = .ok (.iload_n 3, 1) := by decide +kernel
theorem dL_law_531 : decode cL_law 531 = .ok (.iconst 1, 1) := by decide +kernel
theorem dL_law_532 : decode cL_law 532 = .ok (.iadd, 1) := by decide +kernel
theorem dL_law_533 : decode cL_law 533 = .ok (.iaload, 1) := by decide +kernel
theorem dL_law_534 : decode cL_law 534 = .ok (.invokevirtual 97, 3) := by decide +kernel
theorem dL_law_537 : decode cL_law 537 = .ok (.aload_n 2, 1) := by decide +kernel
theorem dL_law_538 : decode cL_law 538 = .ok (.aload_n 0, 1) := by decide +kernel
theorem dL_law_539 : decode cL_law 539 = .ok (.iload_n 3, 1) := by decide +kernel
theorem dL_law_540 : decode cL_law 540 = .ok (.iconst 1, 1) := by decide +kernel
theorem dL_law_541 : decode cL_law 541 = .ok (.iadd, 1) := by decide +kernel
theorem dL_law_542 : decode cL_law 542 = .ok (.iaload, 1) := by decide +kernel
theorem dL_law_543 : decode cL_law 543 = .ok (.invokevirtual 100, 3) := by decide +kernel
theorem dL_law_546 : decode cL_law 546 = .ok (.if_icmp .eq 203, 3) := by decide +kernel
theorem dL_law_549 : decode cL_law 549 = .ok (.iconst 0, 1) := by decide +kernel
theorem dL_law_550 : decode cL_law 550 = .ok (.ireturn, 1) := by decide +kernel
theorem dL_law_551 : decode cL_law 551 = .ok (.aload_n 1, 1) := by decide +kernel
theorem dL_law_552 : decode cL_law 552 = .ok (.aload_n 0, 1) := by decide +kernel
theorem dL_law_553 : decode cL_law 553 = .ok (.iload_n 3, 1) := by decide +kernel
theorem dL_law_554 : decode cL_law 554 = .ok (.iconst 1, 1) := by decide +kernel
theorem dL_law_555 : decode cL_law 555 = .ok (.iadd, 1) := by decide +kernel
theorem dL_law_556 : decode cL_law 556 = .ok (.iaload, 1) := by decide +kernel
theorem dL_law_557 : decode cL_law 557 = .ok (.aload_n 0, 1) := by decide +kernel
theorem dL_law_558 : decode cL_law 558 = .ok (.iload_n 3, 1) := by decide +kernel
theorem dL_law_559 : decode cL_law 559 = .ok (.iconst 2, 1) := by decide +kernel
theorem dL_law_560 : decode cL_law 560 = .ok (.iadd, 1) := by decide +kernel
theorem dL_law_561 : decode cL_law 561 = .ok (.iaload, 1) := by decide +kernel
theorem dL_law_562 : decode cL_law 562 = .ok (.invokevirtual 101, 3) := by decide +kernel
theorem dL_law_565 : decode cL_law 565 = .ok (.aload_n 2, 1) := by decide +kernel
theorem dL_law_566 : decode cL_law 566 = .ok (.aload_n 0, 1) := by decide +kernel
theorem dL_law_567 : decode cL_law 567 = .ok (.iload_n 3, 1) := by decide +kernel
theorem dL_law_568 : decode cL_law 568 = .ok (.iconst 1, 1) := by decide +kernel
theorem dL_law_569 : decode cL_law 569 = .ok (.iadd, 1) := by decide +kernel
theorem dL_law_570 : decode cL_law 570 = .ok (.iaload, 1) := by decide +kernel
theorem dL_law_571 : decode cL_law 571 = .ok (.aload_n 0, 1) := by decide +kernel
theorem dL_law_572 : decode cL_law 572 = .ok (.iload_n 3, 1) := by decide +kernel
theorem dL_law_573 : decode cL_law 573 = .ok (.iconst 2, 1) := by decide +kernel
theorem dL_law_574 : decode cL_law 574 = .ok (.iadd, 1) := by decide +kernel
theorem dL_law_575 : decode cL_law 575 = .ok (.iaload, 1) := by decide +kernel
theorem dL_law_576 : decode cL_law 576 = .ok (.invokevirtual 104, 3) := by decide +kernel
theorem dL_law_579 : decode cL_law 579 = .ok (.if_icmp .eq 170, 3) := by decide +kernel
theorem dL_law_582 : decode cL_law 582 = .ok (.iconst 0, 1) := by decide +kernel
theorem dL_law_583 : decode cL_law 583 = .ok (.ireturn, 1) := by decide +kernel
theorem dL_law_584 : decode cL_law 584 = .ok (.aload_n 1, 1) := by decide +kernel
theorem dL_law_585 : decode cL_law 585 = .ok (.aload_n 0, 1) := by decide +kernel
theorem dL_law_586 : decode cL_law 586 = .ok (.iload_n 3, 1) := by decide +kernel
theorem dL_law_587 : decode cL_law 587 = .ok (.iconst 1, 1) := by decide +kernel
theorem dL_law_588 : decode cL_law 588 = .ok (.iadd, 1) := by decide +kernel
theorem dL_law_589 : decode cL_law 589 = .ok (.iaload, 1) := by decide +kernel
theorem dL_law_590 : decode cL_law 590 = .ok (.invokevirtual 105, 3) := by decide +kernel
theorem dL_law_593 : decode cL_law 593 = .ok (.aload_n 2, 1) := by decide +kernel
theorem dL_law_594 : decode cL_law 594 = .ok (.aload_n 0, 1) := by decide +kernel
theorem dL_law_595 : decode cL_law 595 = .ok (.iload_n 3, 1) := by decide +kernel
theorem dL_law_596 : decode cL_law 596 = .ok (.iconst 1, 1) := by decide +kernel
theorem dL_law_597 : decode cL_law 597 = .ok (.iadd, 1) := by decide +kernel
theorem dL_law_598 : decode cL_law 598 = .ok (.iaload, 1) := by decide +kernel
theorem dL_law_599 : decode cL_law 599 = .ok (.invokevirtual 108, 3) := by decide +kernel
theorem dL_law_602 : decode cL_law 602 = .ok (.if_icmp .eq 147, 3) := by decide +kernel
theorem dL_law_605 : decode cL_law 605 = .ok (.iconst 0, 1) := by decide +kernel
theorem dL_law_606 : decode cL_law 606 = .ok (.ireturn, 1) := by decide +kernel
theorem dL_law_607 : decode cL_law 607 = .ok (.aload_n 1, 1) := by decide +kernel
theorem dL_law_608 : decode cL_law 608 = .ok (.aload_n 0, 1) := by decide +kernel
theorem dL_law_609 : decode cL_law 609 = .ok (.iload_n 3, 1) := by decide +kernel
theorem dL_law_610 : decode cL_law 610 = .ok (.iconst 1, 1) := by decide +kernel
theorem dL_law_611 : decode cL_law 611 = .ok (.iadd, 1) := by decide +kernel
theorem dL_law_612 : decode cL_law 612 = .ok (.iaload, 1) := by decide +kernel
theorem dL_law_613 : decode cL_law 613 = .ok (.invokevirtual 109, 3) := by decide +kernel
theorem dL_law_616 : decode cL_law 616 = .ok (.aload_n 2, 1) := by decide +kernel
theorem dL_law_617 : decode cL_law 617 = .ok (.aload_n 0, 1) := by decide +kernel
theorem dL_law_618 : decode cL_law 618 = .ok (.iload_n 3, 1) := by decide +kernel
theorem dL_law_619 : decode cL_law 619 = .ok (.iconst 1, 1) := by decide +kernel
theorem dL_law_620 : decode cL_law 620 = .ok (.iadd, 1) := by decide +kernel
theorem dL_law_621 : decode cL_law 621 = .ok (.iaload, 1) := by decide +kernel
theorem dL_law_622 : decode cL_law 622 = .ok (.invokevirtual 112, 3) := by decide +kernel
theorem dL_law_625 : decode cL_law 625 = .ok (.if_icmp .eq 124, 3) := by decide +kernel
theorem dL_law_628 : decode cL_law 628 = .ok (.iconst 0, 1) := by decide +kernel
theorem dL_law_629 : decode cL_law 629 = .ok (.ireturn, 1) := by decide +kernel
theorem dL_law_630 : decode cL_law 630 = .ok (.aload_n 1, 1) := by decide +kernel
theorem dL_law_631 : decode cL_law 631 = .ok (.invokevirtual 113, 3) := by decide +kernel
theorem dL_law_634 : decode cL_law 634 = .ok (.aload_n 2, 1) := by decide +kernel
theorem dL_law_635 : decode cL_law 635 = .ok (.invokevirtual 116, 3) := by decide +kernel
theorem dL_law_638 : decode cL_law 638 = .ok (.if_icmp .eq 111, 3) := by decide +kernel
theorem dL_law_641 : decode cL_law 641 = .ok (.iconst 0, 1) := by decide +kernel
theorem dL_law_642 : decode cL_law 642 = .ok (.ireturn, 1) := by decide +kernel
theorem dL_law_643 : decode cL_law 643 = .ok (.aload_n 1, 1) := by decide +kernel
theorem dL_law_644 : decode cL_law 644 = .ok (.aload_n 0, 1) := by decide +kernel
theorem dL_law_645 : decode cL_law 645 = .ok (.iload_n 3, 1) := by decide +kernel
theorem dL_law_646 : decode cL_law 646 = .ok (.iconst 1, 1) := by decide +kernel
theorem dL_law_647 : decode cL_law 647 = .ok (.iadd, 1) := by decide +kernel
theorem dL_law_648 : decode cL_law 648 = .ok (.iaload, 1) := by decide +kernel
theorem dL_law_649 : decode cL_law 649 = .ok (.aload_n 0, 1) := by decide +kernel
theorem dL_law_650 : decode cL_law 650 = .ok (.iload_n 3, 1) := by decide +kernel
theorem dL_law_651 : decode cL_law 651 = .ok (.iconst 2, 1) := by decide +kernel
theorem dL_law_652 : decode cL_law 652 = .ok (.iadd, 1) := by decide +kernel
theorem dL_law_653 : decode cL_law 653 = .ok (.iaload, 1) := by decide +kernel
theorem dL_law_654 : decode cL_law 654 = .ok (.invokevirtual 117, 3) := by decide +kernel
theorem dL_law_657 : decode cL_law 657 = .ok (.aload_n 2, 1) := by decide +kernel
theorem dL_law_658 : decode cL_law 658 = .ok (.aload_n 0, 1) := by decide +kernel
theorem dL_law_659 : decode cL_law 659 = .ok (.iload_n 3, 1) := by decide +kernel
theorem dL_law_660 : decode cL_law 660 = .ok (.iconst 1, 1) := by decide +kernel
theorem dL_law_661 : decode cL_law 661 = .ok (.iadd, 1) := by decide +kernel
theorem dL_law_662 : decode cL_law 662 = .ok (.iaload, 1) := by decide +kernel
theorem dL_law_663 : decode cL_law 663 = .ok (.aload_n 0, 1) := by decide +kernel
theorem dL_law_664 : decode cL_law 664 = .ok (.iload_n 3, 1) := by decide +kernel
theorem dL_law_665 : decode cL_law 665 = .ok (.iconst 2, 1) := by decide +kernel
theorem dL_law_666 : decode cL_law 666 = .ok (.iadd, 1) := by decide +kernel
theorem dL_law_667 : decode cL_law 667 = .ok (.iaload, 1) := by decide +kernel
theorem dL_law_668 : decode cL_law 668 = .ok (.invokevirtual 120, 3) := by decide +kernel
theorem dL_law_671 : decode cL_law 671 = .ok (.if_icmp .eq 78, 3) := by decide +kernel
theorem dL_law_674 : decode cL_law 674 = .ok (.iconst 0, 1) := by decide +kernel
theorem dL_law_675 : decode cL_law 675 = .ok (.ireturn, 1) := by decide +kernel
theorem dL_law_676 : decode cL_law 676 = .ok (.aload_n 1, 1) := by decide +kernel
theorem dL_law_677 : decode cL_law 677 = .ok (.invokevirtual 121, 3) := by decide +kernel
theorem dL_law_680 : decode cL_law 680 = .ok (.aload_n 2, 1) := by decide +kernel
theorem dL_law_681 : decode cL_law 681 = .ok (.invokevirtual 124, 3) := by decide +kernel
theorem dL_law_684 : decode cL_law 684 = .ok (.if_icmp .eq 65, 3) := by decide +kernel
theorem dL_law_687 : decode cL_law 687 = .ok (.iconst 0, 1) := by decide +kernel
theorem dL_law_688 : decode cL_law 688 = .ok (.ireturn, 1) := by decide +kernel
theorem dL_law_689 : decode cL_law 689 = .ok (.aload_n 1, 1) := by decide +kernel
theorem dL_law_690 : decode cL_law 690 = .ok (.aload_n 0, 1) := by decide +kernel
theorem dL_law_691 : decode cL_law 691 = .ok (.iload_n 3, 1) := by decide +kernel
theorem dL_law_692 : decode cL_law 692 = .ok (.iconst 1, 1) := by decide +kernel
theorem dL_law_693 : decode cL_law 693 = .ok (.iadd, 1) := by decide +kernel
theorem dL_law_694 : decode cL_law 694 = .ok (.iaload, 1) := by decide +kernel
theorem dL_law_695 : decode cL_law 695 = .ok (.aload_n 0, 1) := by decide +kernel
theorem dL_law_696 : decode cL_law 696 = .ok (.iload_n 3, 1) := by decide +kernel
theorem dL_law_697 : decode cL_law 697 = .ok (.iconst 2, 1) := by decide +kernel
theorem dL_law_698 : decode cL_law 698 = .ok (.iadd, 1) := by decide +kernel
theorem dL_law_699 : decode cL_law 699 = .ok (.iaload, 1) := by decide +kernel
theorem dL_law_700 : decode cL_law 700 = .ok (.invokevirtual 125, 3) := by decide +kernel
theorem dL_law_703 : decode cL_law 703 = .ok (.aload_n 2, 1) := by decide +kernel
theorem dL_law_704 : decode cL_law 704 = .ok (.aload_n 0, 1) := by decide +kernel
theorem dL_law_705 : decode cL_law 705 = .ok (.iload_n 3, 1) := by decide +kernel
theorem dL_law_706 : decode cL_law 706 = .ok (.iconst 1, 1) := by decide +kernel
theorem dL_law_707 : decode cL_law 707 = .ok (.iadd, 1) := by decide +kernel
theorem dL_law_708 : decode cL_law 708 = .ok (.iaload, 1) := by decide +kernel
theorem dL_law_709 : decode cL_law 709 = .ok (.aload_n 0, 1) := by decide +kernel
theorem dL_law_710 : decode cL_law 710 = .ok (.iload_n 3, 1) := by decide +kernel
theorem dL_law_711 : decode cL_law 711 = .ok (.iconst 2, 1) := by decide +kernel
theorem dL_law_712 : decode cL_law 712 = .ok (.iadd, 1) := by decide +kernel
theorem dL_law_713 : decode cL_law 713 = .ok (.iaload, 1) := by decide +kernel
theorem dL_law_714 : decode cL_law 714 = .ok (.invokevirtual 128, 3) := by decide +kernel
theorem dL_law_717 : decode cL_law 717 = .ok (.if_icmp .eq 32, 3) := by decide +kernel
theorem dL_law_720 : decode cL_law 720 = .ok (.iconst 0, 1) := by decide +kernel
theorem dL_law_721 : decode cL_law 721 = .ok (.ireturn, 1) := by decide +kernel
theorem dL_law_722 : decode cL_law 722 = .ok (.aload_n 1, 1) := by decide +kernel
theorem dL_law_723 : decode cL_law 723 = .ok (.invokevirtual 129, 3) := by decide +kernel
theorem dL_law_726 : decode cL_law 726 = .ok (.aload_n 2, 1) := by decide +kernel
theorem dL_law_727 : decode cL_law 727 = .ok (.invokevirtual 132, 3) := by decide +kernel
theorem dL_law_730 : decode cL_law 730 = .ok (.if_icmp .eq 19, 3) := by decide +kernel
theorem dL_law_733 : decode cL_law 733 = .ok (.iconst 0, 1) := by decide +kernel
theorem dL_law_734 : decode cL_law 734 = .ok (.ireturn, 1) := by decide +kernel
theorem dL_law_735 : decode cL_law 735 = .ok (.aload_n 1, 1) := by decide +kernel
theorem dL_law_736 : decode cL_law 736 = .ok (.invokevirtual 133, 3) := by decide +kernel
theorem dL_law_739 : decode cL_law 739 = .ok (.aload_n 2, 1) := by decide +kernel
theorem dL_law_740 : decode cL_law 740 = .ok (.invokevirtual 137, 3) := by decide +kernel
theorem dL_law_743 : decode cL_law 743 = .ok (.lcmp, 1) := by decide +kernel
theorem dL_law_744 : decode cL_law 744 = .ok (.ifCond .eq 5, 3) := by decide +kernel
theorem dL_law_747 : decode cL_law 747 = .ok (.iconst 0, 1) := by decide +kernel
theorem dL_law_748 : decode cL_law 748 = .ok (.ireturn, 1) := by decide +kernel
theorem dL_law_749 : decode cL_law 749 = .ok (.iinc 3 3, 3) := by decide +kernel
theorem dL_law_752 : decode cL_law 752 = .ok (.goto (-724), 3) := by decide +kernel
theorem dL_law_755 : decode cL_law 755 = .ok (.iconst 1, 1) := by decide +kernel
theorem dL_law_756 : decode cL_law 756 = .ok (.ireturn, 1) := by decide +kernel
end
section
/-! THE LOGIC OF THIS CLAIM: a memory is a partial function from addresses to cells; G: what a method does from a point on; C: a method's contract -/
abbrev pE : Type := (Nat × vp_A) ⊕ (Nat × List Value)
abbrev pM : Type := Nat → Option pE
abbrev pT : Type := va_G × (Nat → ClassId)
abbrev MI : Type := ByteArray × Nat × Option FieldType × String × Nat × Nat × Bool
def pCv (E : pT) (x : pE) : va_E := match x with
  | .inl a => .inl (E.2 a.1, a.2)
  | .inr o => .inr o
def pH (E : pT) (M : pM) (H : Heap) : Prop := ∀ (a : Nat) (e : pE), M a = some e → va_at E.1 classes (a, pCv E e) H
def TBL : List Cond := lw_tbl.filter goodWord
def isNest : Cond → Bool
  | .fieldLinkNest .. => true
  | .methodLinkNest .. => true
  | _ => false
theorem isNest_tab {w : Cond} (h : isNest w = true) : w.onTables = true := by
  cases w <;> first | rfl | (simp [isNest] at h)
def pK (E : pT) (s : State) : Prop := va_K E.1 classes [(E.2 0, .int), (E.2 1, .boolean), (E.2 2, .object "ContextCoder$State")] s ∧ (∀ w ∈ lw_tbl, isNest w = true → va_Nw w s) ∧ va_AO "ContextCoder$State" s
theorem pK.moved {E : pT} {s U : State} (hW : s.WarmedH U.vm) (h : pK E s) : pK E U := by
  refine ⟨va_K.moved hW.alike h.1, fun w hw hn => ?_, h.2.2.moved hW.alike⟩
  have h1 := h.2.1 w hw hn
  cases w <;> first | exact va_Nw.warmF hW h1 | exact va_Nw.warmM hW h1 | (simp [isNest] at hn)
theorem pK.same {E : pT} {s U : State} (hv : s.vm = U.vm) (hA : s.vm.Alike U.vm) (h : pK E s) : pK E U :=
  ⟨va_K.moved hA h.1, fun w hw hn => va_Nw.same (isNest_tab hn) hv (h.2.1 w hw hn), h.2.2.moved hA⟩
theorem mem_TBL {w : Cond} (i : Nat) (h : lw_tbl[i]? = some w) (g : goodWord w = true) : w ∈ TBL := List.mem_filter.mpr ⟨List.mem_of_getElem? h, g⟩
theorem TBL_good : ∀ w ∈ TBL, (w.onTables && w.keeps) = true ∨ ∃ ty, w = .arrayClass ty := fun w h => good_of_word (List.mem_filter.mp h).2
theorem TBL_in : ∀ w ∈ TBL, w ∈ lw_tbl := fun w h => (List.mem_filter.mp h).1
/-- the locals, place by place -/
def lvv (ls : Array Slot) (n : Nat) (pl : List (Option Value)) : Prop := pl.length = n ∧ ls.size = n ∧ lv_wf ls ∧ ∀ (i : Nat) (v : Value), pl[i]? = some (some v) → ls[i]? = some (.val v)
def en : Nat → List (Option Value) → List (Nat × Value)
  | _, [] => []
  | k, none :: t => en (k + 1) t
  | k, some v :: t => (k, v) :: en (k + 1) t
theorem mem_en : ∀ (pl : List (Option Value)) (k : Nat) (q : Nat × Value), q ∈ en k pl ↔ k ≤ q.1 ∧ pl[q.1 - k]? = some (some q.2)
  | [], k, q => by simp [en]
  | none :: t, k, q => by
    rw [en, mem_en t (k + 1) q]
    constructor
    · intro ⟨h1, h2⟩
      refine ⟨by omega, ?_⟩
      rw [show q.1 - k = (q.1 - (k + 1)) + 1 by omega]
      simpa using h2
    · intro ⟨h1, h2⟩
      by_cases h : q.1 = k
      · rw [h] at h2; simp at h2
      · refine ⟨by omega, ?_⟩
        rw [show q.1 - k = (q.1 - (k + 1)) + 1 by omega] at h2
        simpa using h2
  | some v :: t, k, q => by
    rw [en, List.mem_cons, mem_en t (k + 1) q]
    constructor
    · rintro (rfl | ⟨h1, h2⟩)
      · simp
      · refine ⟨by omega, ?_⟩
        rw [show q.1 - k = (q.1 - (k + 1)) + 1 by omega]
        simpa using h2
    · intro ⟨h1, h2⟩
      by_cases h : q.1 = k
      · rw [h] at h2
        simp at h2
        exact Or.inl (by cases q; simp_all)
      · refine Or.inr ⟨by omega, ?_⟩
        rw [show q.1 - k = (q.1 - (k + 1)) + 1 by omega] at h2
        simpa using h2
theorem lvv_en {ls : Array Slot} {n : Nat} {pl : List (Option Value)} (h : lvv ls n pl) : lv_has ls n (en 0 pl) :=
  ⟨h.2.1, h.2.2.1, fun q hq => h.2.2.2 q.1 q.2 (by simpa using (mem_en pl 0 q).mp hq)⟩
def k2c (o : Option Value) : Option Value := match o with
  | some (.long _) => none
  | some (.double _) => none
  | x => x
def s1 : List (Option Value) → Nat → Value → List (Option Value)
  | [], _, _ => []
  | _ :: t, 0, v => some v :: t
  | o :: t, 1, v => k2c o :: s1 t 0 v
  | o :: t, n + 2, v => o :: s1 t (n + 1) v
def s2 : List (Option Value) → Nat → Value → List (Option Value)
  | [], _, _ => []
  | _ :: _ :: t, 0, v => some v :: none :: t
  | [_], 0, v => [some v]
  | o :: t, 1, v => k2c o :: s2 t 0 v
  | o :: t, n + 2, v => o :: s2 t (n + 1) v
theorem s1_len : ∀ (pl : List (Option Value)) (i : Nat) (v : Value), (s1 pl i v).length = pl.length
  | [], _, _ => rfl
  | _ :: _, 0, _ => rfl
  | o :: t, 1, v => by simp [s1, s1_len t 0 v]
  | o :: t, n + 2, v => by simp [s1, s1_len t (n + 1) v]
theorem s2_len : ∀ (pl : List (Option Value)) (i : Nat) (v : Value), (s2 pl i v).length = pl.length
  | [], _, _ => rfl
  | [_], 0, _ => rfl
  | _ :: _ :: _, 0, _ => rfl
  | o :: t, 1, v => by simp [s2, s2_len t 0 v]
  | o :: t, n + 2, v => by simp [s2, s2_len t (n + 1) v]
theorem k2c_some {o : Option Value} {w : Value} (h : k2c o = some w) : o = some w ∧ w.category = 1 := by
  match o, h with
  | some (.int x), h => simp [k2c] at h; subst h; exact ⟨rfl, rfl⟩
  | some (.float x), h => simp [k2c] at h; subst h; exact ⟨rfl, rfl⟩
  | some (.ref x), h => simp [k2c] at h; subst h; exact ⟨rfl, rfl⟩
  | some .null, h => simp [k2c] at h; subst h; exact ⟨rfl, rfl⟩
  | some (.retAddr x), h => simp [k2c] at h; subst h; exact ⟨rfl, rfl⟩
  | some (.long x), h => simp [k2c] at h
  | some (.double x), h => simp [k2c] at h
  | none, h => simp [k2c] at h
theorem s1_get : ∀ (pl : List (Option Value)) (i : Nat) (v : Value) (j : Nat) (w : Value), (s1 pl i v)[j]? = some (some w) → (j = i ∧ w = v) ∨ (j ≠ i ∧ pl[j]? = some (some w) ∧ ¬ (j + 1 = i ∧ w.category = 2))
  | [], i, v, j, w, h => by simp [s1] at h
  | o :: t, 0, v, 0, w, h => by simp [s1] at h; exact Or.inl ⟨rfl, h.symm⟩
  | o :: t, 0, v, j + 1, w, h => by simp [s1] at h; exact Or.inr ⟨by omega, by simpa using h, by omega⟩
  | o :: t, 1, v, 0, w, h => by
    simp only [s1, List.getElem?_cons_zero, Option.some.injEq] at h
    obtain ⟨h1, h2⟩ := k2c_some h
    exact Or.inr ⟨by omega, by simp [h1], by omega⟩
  | o :: t, 1, v, j + 1, w, h => by
    simp only [s1, List.getElem?_cons_succ] at h
    rcases s1_get t 0 v j w h with ⟨rfl, rfl⟩ | ⟨h1, h2, h3⟩
    · exact Or.inl ⟨rfl, rfl⟩
    · exact Or.inr ⟨by omega, by simpa using h2, by omega⟩
  | o :: t, n + 2, v, 0, w, h => by
    simp only [s1, List.getElem?_cons_zero] at h
    exact Or.inr ⟨by omega, by simpa using h, by omega⟩
  | o :: t, n + 2, v, j + 1, w, h => by
    simp only [s1, List.getElem?_cons_succ] at h
    rcases s1_get t (n + 1) v j w h with ⟨rfl, rfl⟩ | ⟨h1, h2, h3⟩
    · exact Or.inl ⟨rfl, rfl⟩
    · exact Or.inr ⟨by omega, by simpa using h2, fun q => h3 ⟨by omega, q.2⟩⟩
theorem s2_get : ∀ (pl : List (Option Value)) (i : Nat) (v : Value) (j : Nat) (w : Value), (s2 pl i v)[j]? = some (some w) → (j = i ∧ w = v) ∨ (j ≠ i ∧ j ≠ i + 1 ∧ pl[j]? = some (some w) ∧ ¬ (j + 1 = i ∧ w.category = 2))
  | [], i, v, j, w, h => by simp [s2] at h
  | [o], 0, v, 0, w, h => by simp [s2] at h; exact Or.inl ⟨rfl, h.symm⟩
  | [o], 0, v, j + 1, w, h => by simp [s2] at h
  | o :: o2 :: t, 0, v, 0, w, h => by simp [s2] at h; exact Or.inl ⟨rfl, h.symm⟩
  | o :: o2 :: t, 0, v, 1, w, h => by simp [s2] at h
  | o :: o2 :: t, 0, v, j + 2, w, h => by simp [s2] at h; exact Or.inr ⟨by omega, by omega, by simpa using h, by omega⟩
  | o :: t, 1, v, 0, w, h => by
    simp only [s2, List.getElem?_cons_zero, Option.some.injEq] at h
    obtain ⟨h1, h2⟩ := k2c_some h
    exact Or.inr ⟨by omega, by omega, by simp [h1], by omega⟩
  | o :: t, 1, v, j + 1, w, h => by
    simp only [s2, List.getElem?_cons_succ] at h
    rcases s2_get t 0 v j w h with ⟨rfl, rfl⟩ | ⟨h1, h2, h3, h4⟩
    · exact Or.inl ⟨rfl, rfl⟩
    · exact Or.inr ⟨by omega, by omega, by simpa using h3, by omega⟩
  | o :: t, n + 2, v, 0, w, h => by
    simp only [s2, List.getElem?_cons_zero] at h
    exact Or.inr ⟨by omega, by omega, by simpa using h, by omega⟩
  | o :: t, n + 2, v, j + 1, w, h => by
    simp only [s2, List.getElem?_cons_succ] at h
    rcases s2_get t (n + 1) v j w h with ⟨rfl, rfl⟩ | ⟨h1, h2, h3, h4⟩
    · exact Or.inl ⟨rfl, rfl⟩
    · exact Or.inr ⟨by omega, by omega, by simpa using h3, fun q => h4 ⟨by omega, q.2⟩⟩
theorem lvv_s1 {ls' : Array Slot} {n i : Nat} {pl : List (Option Value)} {v : Value} (hl : pl.length = n) (h : lv_has ls' n ((i, v) :: (en 0 pl).filter (fun q => !(q.1 == i) && !(q.1 + 1 == i && q.2.category == 2)))) : lvv ls' n (s1 pl i v) := by
  refine ⟨(s1_len pl i v).trans hl, h.1, h.2.1, fun j w hj => ?_⟩
  rcases s1_get pl i v j w hj with ⟨rfl, rfl⟩ | ⟨h1, h2, h3⟩
  · exact h.2.2 _ List.mem_cons_self
  · refine h.2.2 (j, w) (List.mem_cons_of_mem _ (List.mem_filter.mpr ⟨(mem_en pl 0 (j, w)).mpr ⟨Nat.zero_le _, by simpa using h2⟩, ?_⟩))
    simp only [Bool.and_eq_true, Bool.not_eq_true', beq_eq_false_iff_ne, Bool.and_eq_false_iff, ne_eq]
    refine ⟨h1, ?_⟩
    by_cases hh : j + 1 = i
    · exact Or.inr (fun q => h3 ⟨hh, q⟩)
    · exact Or.inl hh
theorem lvv_s2 {ls' : Array Slot} {n i : Nat} {pl : List (Option Value)} {v : Value} (hl : pl.length = n) (h : lv_has ls' n ((i, v) :: (en 0 pl).filter (fun q => !(q.1 == i) && (!(q.1 == i + 1) && !(q.1 + 1 == i && q.2.category == 2))))) : lvv ls' n (s2 pl i v) := by
  refine ⟨(s2_len pl i v).trans hl, h.1, h.2.1, fun j w hj => ?_⟩
  rcases s2_get pl i v j w hj with ⟨rfl, rfl⟩ | ⟨h1, h0, h2, h3⟩
  · exact h.2.2 _ List.mem_cons_self
  · refine h.2.2 (j, w) (List.mem_cons_of_mem _ (List.mem_filter.mpr ⟨(mem_en pl 0 (j, w)).mpr ⟨Nat.zero_le _, by simpa using h2⟩, ?_⟩))
    simp only [Bool.and_eq_true, Bool.not_eq_true', beq_eq_false_iff_ne, Bool.and_eq_false_iff, ne_eq]
    refine ⟨h1, h0, ?_⟩
    by_cases hh : j + 1 = i
    · exact Or.inr (fun q => h3 ⟨hh, q⟩)
    · exact Or.inl hh
theorem lvv_weak {ls : Array Slot} {n : Nat} {pl pl' : List (Option Value)} (h : lvv ls n pl) (hl : pl'.length = pl.length) (hw : ∀ (i : Nat) (v : Value), pl'[i]? = some (some v) → pl[i]? = some (some v)) : lvv ls n pl' :=
  ⟨hl.trans h.1, h.2.1, h.2.2.1, fun i v hi => h.2.2.2 i v (hw i v hi)⟩
def pR (I : MI) (mc ms : Nat) : Room := { frames := I.2.2.2.2.1, cells := mc, slots := ms, locals := I.2.2.2.2.2.1 }
/-- what stands around a method's body -/
def pX (I : MI) (mc ms : Nat) (E : pT) (p : Program) (R : Room) (s : State) (m : MethodId) (args : Array Value) (meth : Method) (c : Code) : Prop :=
  p.tables.exec = Jvm.exec ∧ c.code = I.1 ∧ c.maxLocals = I.2.1 ∧ s.vm.findClass I.2.2.2.1 = some m.cls ∧ (∀ w ∈ TBL, w.before args s = true) ∧ meth.locks = false ∧ meth.sig.returnType = I.2.2.1 ∧ (I.2.2.2.2.2.2 = true → meth.name = "<init>") ∧ R = pR I mc ms ∧ pK E s
def pW (E : pT) (A : Nat → Prop) (s : State) (M : pM) (z : Nat) (H : Heap) (locs : List Loc) : Prop :=
  pH E M H ∧ H.size = z ∧ va_S A s.heap H locs ∧ (∀ (q : Nat) (e : pE), M q = some e → A q) ∧ ∀ q : Nat, s.heap.size ≤ q → A q
def pQ (E : pT) (A : Nat → Prop) (Q : pM → Nat → Option Value → Prop) : Array Value → State → Outcome → State → Prop := fun _ st o t =>
  (∃ (r : Option Value) (M' : pM), o = .returned r ∧ Q M' t.heap.size r ∧ pH E M' t.heap ∧ ∀ (q : Nat) (e : pE), M' q = some e → A q) ∧ va_F A st t
def G (I : MI) (mc ms : Nat) (Q : pM → Nat → Option Value → Prop) (k n pc : Nat) (pl : List (Option Value)) (st : List Value) (M : pM) (z : Nat) : Prop :=
  ∀ (E : pT) (p : Program) (l : Launch) (e : Env) (R : Room) (s : State) (m : MethodId) (args : Array Value) (below : List Frame) (meth : Method) (c : Code) (A : Nat → Prop) (H : Heap) (locs : List Loc) (ls : Array Slot),
    pX I mc ms E p R s m args meth c → pW E A s M z H locs → lvv ls I.2.1 pl → W p l e R s m args below meth c H locs k n (MQ below (pQ E A Q) args s mc ms A) (F0 m pc ls st)
def AA (M : pM) (z : Nat) : Nat → Prop := fun q => (∃ e, M q = some e) ∨ z ≤ q
/-- a method's contract: from the memory M (the heap's size z) with these arguments it returns, and Q holds of the memory, the heap's size and the answer then -/
def C (I : MI) (y : MethodName) (args : List Value) (M : pM) (z mc ms : Nat) (Q : pM → Nat → Option Value → Prop) : Prop :=
  ∀ (l : Launch) (E : pT), Met l y (Cond.code y I.1 I.2.1 I.2.2.1 :: TBL) (pR I mc ms) (va_Pc args (fun U => U.heap.size = z ∧ pH E M U.heap ∧ pK E U)) (pQ E (AA M z) Q) mc ms (AA M z)
theorem C.mono {I : MI} {y : MethodName} {args : List Value} {M : pM} {z mc ms : Nat} {Q Q' : pM → Nat → Option Value → Prop} (h : C I y args M z mc ms Q) (hQ : ∀ M' z' r, Q M' z' r → Q' M' z' r) : C I y args M z mc ms Q' := by
  intro l E
  refine MetFree.mono (h l E) (fun _ _ h => h) (fun _ _ _ _ _ h => h) (fun a s o t _ hq => ⟨?_, hq.2⟩)
  obtain ⟨⟨r, M', h1, h2, h3⟩, h4⟩ := hq.1
  exact ⟨⟨r, M', h1, hQ _ _ _ h2, h3⟩, h4⟩
def pU (M : pM) (a : Nat) (e : pE) : pM := fun x => if x = a then some e else M x
theorem pU_same {M : pM} {a : Nat} {e : pE} : pU M a e a = some e := by simp [pU]
theorem pU_ne {M : pM} {a x : Nat} {e : pE} (h : x ≠ a) : pU M a e x = M x := by simp [pU, h]
theorem pH.lt {E : pT} {M : pM} {H : Heap} (h : pH E M H) {a : Nat} {e : pE} (ha : M a = some e) : a < H.size := va_at.lt (h a e ha)
theorem pW.put {E : pT} {A : Nat → Prop} {s : State} {M : pM} {z : Nat} {H H' : Heap} {locs : List Loc} (h : pW E A s M z H locs) {a i : Nat} {e0 e : pE} (ha : M a = some e0) (he : va_at E.1 classes (a, pCv E e) H') (hz : H'.size = H.size) (oq : ∀ q : Nat, q ≠ a → H'[q]? = H[q]?) : pW E A s (pU M a e) z H' (locs ++ [⟨a, i⟩]) := by
  obtain ⟨h1, h2, h3, h4, h5⟩ := h
  refine ⟨fun x ex hx => ?_, by rw [hz, h2], h3.put hz oq (h4 a e0 ha), fun q eq hq => ?_, h5⟩
  · unfold pU at hx
    split at hx
    · next hxa => subst hxa; cases hx; exact he
    · next hxa => exact (h1 x ex hx).kept (oq x hxa)
  · unfold pU at hq
    split at hq
    · next hxa => rw [hxa]; exact h4 a e0 ha
    · exact h4 q eq hq
theorem pW.new {E : pT} {A : Nat → Prop} {s : State} {M : pM} {z : Nat} {H H' : Heap} {locs : List Loc} (h : pW E A s M z H locs) {e : pE} (he : va_at E.1 classes (z, pCv E e) H') (hz : H'.size = z + 1) (oq : ∀ q : Nat, q < z → H'[q]? = H[q]?) : pW E A s (pU M z e) (z + 1) H' locs := by
  obtain ⟨h1, h2, h3, h4, h5⟩ := h
  have hle : s.heap.size ≤ z := by rw [← h2]; exact h3.1
  refine ⟨fun x ex hx => ?_, hz, ⟨by omega, fun q g1 g2 => ?_, h3.2.2⟩, fun q eq hq => ?_, h5⟩
  · unfold pU at hx
    split at hx
    · next hxa => subst hxa; cases hx; exact he
    · next hxa => exact (h1 x ex hx).kept (oq x (by rw [← h2]; exact h1.lt hx))
  · rw [oq q (by omega)]; exact h3.2.1 q g1 g2
  · unfold pU at hq
    split at hq
    · next hxa => rw [hxa]; exact h5 z hle
    · exact h4 q eq hq
/-- an address of the memory lies below the heap's size -/
theorem G.lt {I : MI} {mc ms : Nat} {Q : pM → Nat → Option Value → Prop} {k n pc : Nat} {pl : List (Option Value)} {st : List Value} {M : pM} {z a : Nat} {e : pE} (ha : M a = some e) (K : a < z → G I mc ms Q k n pc pl st M z) : G I mc ms Q k n pc pl st M z := by
  intro E p l e R s m args below meth c A H locs ls X Wd L
  exact K (by rw [← Wd.2.1]; exact Wd.1.lt ha) E p l e R s m args below meth c A H locs ls X Wd L
/-- the memory may be another that says the same -/
theorem G.eqM {I : MI} {mc ms : Nat} {Q : pM → Nat → Option Value → Prop} {k n pc : Nat} {pl : List (Option Value)} {st : List Value} {M M' : pM} {z : Nat} (h : M = M') (K : G I mc ms Q k n pc pl st M' z) : G I mc ms Q k n pc pl st M z := by subst h; exact K
/-- fewer locals are known -/
theorem G.weak {I : MI} {mc ms : Nat} {Q : pM → Nat → Option Value → Prop} {k n pc : Nat} {pl pl' : List (Option Value)} {st : List Value} {M : pM} {z : Nat} (hl : pl'.length = pl.length) (hw : ∀ (i : Nat) (v : Value), pl'[i]? = some (some v) → pl[i]? = some (some v)) (K : G I mc ms Q k n pc pl' st M z) : G I mc ms Q k n pc pl st M z := by
  intro E p l e R s m args below meth c A H locs ls X Wd L
  exact K E p l e R s m args below meth c A H locs ls X Wd (lvv_weak L hl hw)
theorem C.intro {I : MI} {y : MethodName} {args : List Value} {pl : List (Option Value)} {M : pM} {z mc ms : Nat} {Q : pM → Nat → Option Value → Prop} (hn : plainName y.cls = true) (hc : I.2.2.2.1 = y.cls) (hi : I.2.2.2.2.2.2 = true → y.name = "<init>") (hl : pl.length = I.2.1) (hls : (lg_sl args).length ≤ I.2.1) (he : en 0 pl = lv_args 0 args) (K : G I mc ms Q 0 0 0 pl [] M z) : C I y args M z mc ms Q := by
  intro l E
  refine Met.ofW (cc := I.1) (maxL := I.2.1) (ret := I.2.2.1) hn rfl ?_
  intro p e s m args' below meth c s₁ B hml hv
  obtain ⟨rfl, hz, hH, hK⟩ := hv
  have hts := atoms_spec (ws := Cond.code y I.1 I.2.1 I.2.2.1 :: TBL) B.pre
  have hin : meth.name = y.name := (name_of_methodNamed B.named B.method).1
  rw [lg_entry_eq]
  have h0 := lv_entry args hls
  refine K E p l e _ s m _ below meth c (AA M z) s.heap [] _ ⟨B.exec, B.bytes, hml, by rw [hc]; exact findClass_of_methodNamed B.named, fun w hw => hts w (List.mem_cons_of_mem _ hw), B.notSynchronized, B.returns, fun h => hin.trans (hi h), rfl, hK⟩ ⟨hH, hz, va_S.rf, fun q e h => Or.inl ⟨e, h⟩, fun q h => Or.inr (by rw [← hz]; exact h)⟩ ⟨hl, h0.1, h0.2.1, fun i v hiv => h0.2.2 (i, v) ?_⟩
  rw [← he]
  exact (mem_en pl 0 (i, v)).mpr ⟨Nat.zero_le _, by simpa using hiv⟩
section GR
variable {I : MI} {mc ms : Nat} {Q : pM → Nat → Option Value → Prop} {k n pc : Nat} {pl : List (Option Value)} {st : List Value} {M : pM} {z : Nat}
theorem g_iconst {c0 : Int} {v : Int32} (hd : decode I.1 pc = .ok (.iconst c0, 1)) (hv : Int32.ofInt c0 = v) (K : G I mc ms Q k n (pc + 1) pl (.int v :: st) M z) : G I mc ms Q k n pc pl (st) M z := by
  intro E p l e R s m args below meth c A H locs ls X Wd L
  exact lv_iconst X.1 X.2.1 hd hv (K E p l e R s m args below meth c A H locs ls X Wd L)
theorem g_bipush {c0 : Int} {v : Int32} (hd : decode I.1 pc = .ok (.bipush c0, 2)) (hv : (Int8.ofInt c0).toInt32 = v) (K : G I mc ms Q k n (pc + 2) pl (.int v :: st) M z) : G I mc ms Q k n pc pl (st) M z := by
  intro E p l e R s m args below meth c A H locs ls X Wd L
  exact lv_bipush X.1 X.2.1 hd hv (K E p l e R s m args below meth c A H locs ls X Wd L)
theorem g_sipush {c0 : Int} {v : Int32} (hd : decode I.1 pc = .ok (.sipush c0, 3)) (hv : (Int16.ofInt c0).toInt32 = v) (K : G I mc ms Q k n (pc + 3) pl (.int v :: st) M z) : G I mc ms Q k n pc pl (st) M z := by
  intro E p l e R s m args below meth c A H locs ls X Wd L
  exact lv_sipush X.1 X.2.1 hd hv (K E p l e R s m args below meth c A H locs ls X Wd L)
theorem g_lconst {c0 : Fin 2} {v : Int64} (hd : decode I.1 pc = .ok (.lconst c0, 1)) (hv : Int64.ofNat (c0 : Nat) = v) (K : G I mc ms Q k n (pc + 1) pl (.long v :: st) M z) : G I mc ms Q k n pc pl (st) M z := by
  intro E p l e R s m args below meth c A H locs ls X Wd L
  exact lv_lconst X.1 X.2.1 hd hv (K E p l e R s m args below meth c A H locs ls X Wd L)
theorem g_iload_n {c0 : Fin 4} {x : Int32} (hd : decode I.1 pc = .ok (.iload_n c0, 1)) (hl : pl[(c0 : Nat)]? = some (some (.int x))) (K : G I mc ms Q k n (pc + 1) pl (.int x :: st) M z) : G I mc ms Q k n pc pl (st) M z := by
  intro E p l e R s m args below meth c A H locs ls X Wd L
  exact lv_iload_n X.1 X.2.1 hd rfl (L.2.2.2 _ _ hl) (K E p l e R s m args below meth c A H locs ls X Wd L)
theorem g_iload {i : Nat} {x : Int32} (hd : decode I.1 pc = .ok (.iload i, 2)) (hl : pl[i]? = some (some (.int x))) (K : G I mc ms Q k n (pc + 2) pl (.int x :: st) M z) : G I mc ms Q k n pc pl (st) M z := by
  intro E p l e R s m args below meth c A H locs ls X Wd L
  exact lv_iload X.1 X.2.1 hd (L.2.2.2 _ _ hl) (K E p l e R s m args below meth c A H locs ls X Wd L)
theorem g_lload_n {c0 : Fin 4} {x : Int64} (hd : decode I.1 pc = .ok (.lload_n c0, 1)) (hl : pl[(c0 : Nat)]? = some (some (.long x))) (K : G I mc ms Q k n (pc + 1) pl (.long x :: st) M z) : G I mc ms Q k n pc pl (st) M z := by
  intro E p l e R s m args below meth c A H locs ls X Wd L
  exact lv_lload_n X.1 X.2.1 hd rfl (L.2.2.2 _ _ hl) (K E p l e R s m args below meth c A H locs ls X Wd L)
theorem g_lload {i : Nat} {x : Int64} (hd : decode I.1 pc = .ok (.lload i, 2)) (hl : pl[i]? = some (some (.long x))) (K : G I mc ms Q k n (pc + 2) pl (.long x :: st) M z) : G I mc ms Q k n pc pl (st) M z := by
  intro E p l e R s m args below meth c A H locs ls X Wd L
  exact lv_lload X.1 X.2.1 hd (L.2.2.2 _ _ hl) (K E p l e R s m args below meth c A H locs ls X Wd L)
theorem g_aload_n {c0 : Fin 4} {x : Nat} (hd : decode I.1 pc = .ok (.aload_n c0, 1)) (hl : pl[(c0 : Nat)]? = some (some (.ref x))) (K : G I mc ms Q k n (pc + 1) pl (.ref x :: st) M z) : G I mc ms Q k n pc pl (st) M z := by
  intro E p l e R s m args below meth c A H locs ls X Wd L
  exact lv_aload_n X.1 X.2.1 hd rfl (L.2.2.2 _ _ hl) (K E p l e R s m args below meth c A H locs ls X Wd L)
theorem g_aload {i : Nat} {x : Nat} (hd : decode I.1 pc = .ok (.aload i, 2)) (hl : pl[i]? = some (some (.ref x))) (K : G I mc ms Q k n (pc + 2) pl (.ref x :: st) M z) : G I mc ms Q k n pc pl (st) M z := by
  intro E p l e R s m args below meth c A H locs ls X Wd L
  exact lv_aload X.1 X.2.1 hd (L.2.2.2 _ _ hl) (K E p l e R s m args below meth c A H locs ls X Wd L)
theorem g_istore_n {c0 : Fin 4} {i : Nat} {x : Int32} (hd : decode I.1 pc = .ok (.istore_n c0, 1)) (hi : (c0 : Nat) = i) (hn : i < I.2.1) (K : G I mc ms Q k n (pc + 1) (s1 pl i (.int x)) st M z) : G I mc ms Q k n pc pl (.int x :: st) M z := by
  intro E p l e R s m args below meth c A H locs ls X Wd L
  exact lv_istore_n X.1 X.2.1 hd hi (lvv_en L) hn rfl (fun ls' h' => K E p l e R s m args below meth c A H locs ls' X Wd (lvv_s1 L.1 h'))
theorem g_istore {i : Nat} {x : Int32} (hd : decode I.1 pc = .ok (.istore i, 2)) (hn : i < I.2.1) (K : G I mc ms Q k n (pc + 2) (s1 pl i (.int x)) st M z) : G I mc ms Q k n pc pl (.int x :: st) M z := by
  intro E p l e R s m args below meth c A H locs ls X Wd L
  exact lv_istore X.1 X.2.1 hd (lvv_en L) hn rfl (fun ls' h' => K E p l e R s m args below meth c A H locs ls' X Wd (lvv_s1 L.1 h'))
theorem g_astore_n {c0 : Fin 4} {i : Nat} {x : Nat} (hd : decode I.1 pc = .ok (.astore_n c0, 1)) (hi : (c0 : Nat) = i) (hn : i < I.2.1) (K : G I mc ms Q k n (pc + 1) (s1 pl i (.ref x)) st M z) : G I mc ms Q k n pc pl (.ref x :: st) M z := by
  intro E p l e R s m args below meth c A H locs ls X Wd L
  exact lv_astore_n X.1 X.2.1 hd hi (lvv_en L) hn rfl (fun ls' h' => K E p l e R s m args below meth c A H locs ls' X Wd (lvv_s1 L.1 h'))
theorem g_astore {i : Nat} {x : Nat} (hd : decode I.1 pc = .ok (.astore i, 2)) (hn : i < I.2.1) (K : G I mc ms Q k n (pc + 2) (s1 pl i (.ref x)) st M z) : G I mc ms Q k n pc pl (.ref x :: st) M z := by
  intro E p l e R s m args below meth c A H locs ls X Wd L
  exact lv_astore X.1 X.2.1 hd (lvv_en L) hn rfl (fun ls' h' => K E p l e R s m args below meth c A H locs ls' X Wd (lvv_s1 L.1 h'))
theorem g_lstore_n {c0 : Fin 4} {i : Nat} {x : Int64} (hd : decode I.1 pc = .ok (.lstore_n c0, 1)) (hi : (c0 : Nat) = i) (hn : i + 1 < I.2.1) (K : G I mc ms Q k n (pc + 1) (s2 pl i (.long x)) st M z) : G I mc ms Q k n pc pl (.long x :: st) M z := by
  intro E p l e R s m args below meth c A H locs ls X Wd L
  exact lv_lstore_n X.1 X.2.1 hd hi (lvv_en L) hn rfl (fun ls' h' => K E p l e R s m args below meth c A H locs ls' X Wd (lvv_s2 L.1 h'))
theorem g_lstore {i : Nat} {x : Int64} (hd : decode I.1 pc = .ok (.lstore i, 2)) (hn : i + 1 < I.2.1) (K : G I mc ms Q k n (pc + 2) (s2 pl i (.long x)) st M z) : G I mc ms Q k n pc pl (.long x :: st) M z := by
  intro E p l e R s m args below meth c A H locs ls X Wd L
  exact lv_lstore X.1 X.2.1 hd (lvv_en L) hn rfl (fun ls' h' => K E p l e R s m args below meth c A H locs ls' X Wd (lvv_s2 L.1 h'))
theorem g_iinc {i : Nat} {c0 : Int} {x v : Int32} (hd : decode I.1 pc = .ok (.iinc i c0, 3)) (hl : pl[i]? = some (some (.int x))) (hv : x + Int32.ofInt c0 = v) (hn : i < I.2.1) (K : G I mc ms Q k n (pc + 3) (s1 pl i (.int v)) st M z) : G I mc ms Q k n pc pl st M z := by
  intro E p l e R s m args below meth c A H locs ls X Wd L
  have hm : (i, Value.int x) ∈ en 0 pl := (mem_en pl 0 _).mpr ⟨Nat.zero_le _, by simpa using hl⟩
  obtain ⟨j, hj⟩ := List.getElem?_of_mem hm
  exact lv_iinc X.1 X.2.1 hd (lvv_en L) hj hv hn rfl (fun ls' h' => K E p l e R s m args below meth c A H locs ls' X Wd (lvv_s1 L.1 h'))
theorem g_iadd {x y : Int32} (hd : decode I.1 pc = .ok (.iadd, 1))  (K : G I mc ms Q k n (pc + 1) pl (.int (x + y) :: st) M z) : G I mc ms Q k n pc pl (.int y :: .int x :: st) M z := by
  intro E p l e R s m args below meth c A H locs ls X Wd L
  exact lv_iadd X.1 X.2.1 hd  (K E p l e R s m args below meth c A H locs ls X Wd L)
theorem g_isub {x y : Int32} (hd : decode I.1 pc = .ok (.isub, 1))  (K : G I mc ms Q k n (pc + 1) pl (.int (x - y) :: st) M z) : G I mc ms Q k n pc pl (.int y :: .int x :: st) M z := by
  intro E p l e R s m args below meth c A H locs ls X Wd L
  exact lv_isub X.1 X.2.1 hd  (K E p l e R s m args below meth c A H locs ls X Wd L)
theorem g_imul {x y : Int32} (hd : decode I.1 pc = .ok (.imul, 1))  (K : G I mc ms Q k n (pc + 1) pl (.int (x * y) :: st) M z) : G I mc ms Q k n pc pl (.int y :: .int x :: st) M z := by
  intro E p l e R s m args below meth c A H locs ls X Wd L
  exact lv_imul X.1 X.2.1 hd  (K E p l e R s m args below meth c A H locs ls X Wd L)
theorem g_iand {x y : Int32} (hd : decode I.1 pc = .ok (.iand, 1))  (K : G I mc ms Q k n (pc + 1) pl (.int (x &&& y) :: st) M z) : G I mc ms Q k n pc pl (.int y :: .int x :: st) M z := by
  intro E p l e R s m args below meth c A H locs ls X Wd L
  exact lv_iand X.1 X.2.1 hd  (K E p l e R s m args below meth c A H locs ls X Wd L)
theorem g_ixor {x y : Int32} (hd : decode I.1 pc = .ok (.ixor, 1))  (K : G I mc ms Q k n (pc + 1) pl (.int (x ^^^ y) :: st) M z) : G I mc ms Q k n pc pl (.int y :: .int x :: st) M z := by
  intro E p l e R s m args below meth c A H locs ls X Wd L
  exact lv_ixor X.1 X.2.1 hd  (K E p l e R s m args below meth c A H locs ls X Wd L)
theorem g_ishl {x y : Int32} (hd : decode I.1 pc = .ok (.ishl, 1))  (K : G I mc ms Q k n (pc + 1) pl (.int (x <<< (y &&& 31)) :: st) M z) : G I mc ms Q k n pc pl (.int y :: .int x :: st) M z := by
  intro E p l e R s m args below meth c A H locs ls X Wd L
  exact lv_ishl X.1 X.2.1 hd  (K E p l e R s m args below meth c A H locs ls X Wd L)
theorem g_ishr {x y : Int32} (hd : decode I.1 pc = .ok (.ishr, 1))  (K : G I mc ms Q k n (pc + 1) pl (.int (x >>> (y &&& 31)) :: st) M z) : G I mc ms Q k n pc pl (.int y :: .int x :: st) M z := by
  intro E p l e R s m args below meth c A H locs ls X Wd L
  exact lv_ishr X.1 X.2.1 hd  (K E p l e R s m args below meth c A H locs ls X Wd L)
theorem g_idiv {x y : Int32} (hd : decode I.1 pc = .ok (.idiv, 1)) (hne : ¬ y = 0) (K : G I mc ms Q k n (pc + 1) pl (.int (x / y) :: st) M z) : G I mc ms Q k n pc pl (.int y :: .int x :: st) M z := by
  intro E p l e R s m args below meth c A H locs ls X Wd L
  exact lv_idiv X.1 X.2.1 hd hne (K E p l e R s m args below meth c A H locs ls X Wd L)
theorem g_irem {x y : Int32} (hd : decode I.1 pc = .ok (.irem, 1)) (hne : ¬ y = 0) (K : G I mc ms Q k n (pc + 1) pl (.int (x - x / y * y) :: st) M z) : G I mc ms Q k n pc pl (.int y :: .int x :: st) M z := by
  intro E p l e R s m args below meth c A H locs ls X Wd L
  exact lv_irem X.1 X.2.1 hd hne (K E p l e R s m args below meth c A H locs ls X Wd L)
theorem g_ladd {x y : Int64} (hd : decode I.1 pc = .ok (.ladd, 1))  (K : G I mc ms Q k n (pc + 1) pl (.long (x + y) :: st) M z) : G I mc ms Q k n pc pl (.long y :: .long x :: st) M z := by
  intro E p l e R s m args below meth c A H locs ls X Wd L
  exact lv_ladd X.1 X.2.1 hd  (K E p l e R s m args below meth c A H locs ls X Wd L)
theorem g_lsub {x y : Int64} (hd : decode I.1 pc = .ok (.lsub, 1))  (K : G I mc ms Q k n (pc + 1) pl (.long (x - y) :: st) M z) : G I mc ms Q k n pc pl (.long y :: .long x :: st) M z := by
  intro E p l e R s m args below meth c A H locs ls X Wd L
  exact lv_lsub X.1 X.2.1 hd  (K E p l e R s m args below meth c A H locs ls X Wd L)
theorem g_lmul {x y : Int64} (hd : decode I.1 pc = .ok (.lmul, 1))  (K : G I mc ms Q k n (pc + 1) pl (.long (x * y) :: st) M z) : G I mc ms Q k n pc pl (.long y :: .long x :: st) M z := by
  intro E p l e R s m args below meth c A H locs ls X Wd L
  exact lv_lmul X.1 X.2.1 hd  (K E p l e R s m args below meth c A H locs ls X Wd L)
theorem g_land {x y : Int64} (hd : decode I.1 pc = .ok (.land, 1))  (K : G I mc ms Q k n (pc + 1) pl (.long (x &&& y) :: st) M z) : G I mc ms Q k n pc pl (.long y :: .long x :: st) M z := by
  intro E p l e R s m args below meth c A H locs ls X Wd L
  exact lv_land X.1 X.2.1 hd  (K E p l e R s m args below meth c A H locs ls X Wd L)
theorem g_ldiv {x y : Int64} (hd : decode I.1 pc = .ok (.ldiv, 1)) (hne : ¬ y = 0) (K : G I mc ms Q k n (pc + 1) pl (.long (x / y) :: st) M z) : G I mc ms Q k n pc pl (.long y :: .long x :: st) M z := by
  intro E p l e R s m args below meth c A H locs ls X Wd L
  exact lv_ldiv X.1 X.2.1 hd hne (K E p l e R s m args below meth c A H locs ls X Wd L)
theorem g_lrem {x y : Int64} (hd : decode I.1 pc = .ok (.lrem, 1)) (hne : ¬ y = 0) (K : G I mc ms Q k n (pc + 1) pl (.long (x - x / y * y) :: st) M z) : G I mc ms Q k n pc pl (.long y :: .long x :: st) M z := by
  intro E p l e R s m args below meth c A H locs ls X Wd L
  exact lv_lrem X.1 X.2.1 hd hne (K E p l e R s m args below meth c A H locs ls X Wd L)
theorem g_lneg {x : Int64} (hd : decode I.1 pc = .ok (.lneg, 1))  (K : G I mc ms Q k n (pc + 1) pl (.long (-x) :: st) M z) : G I mc ms Q k n pc pl (.long x :: st) M z := by
  intro E p l e R s m args below meth c A H locs ls X Wd L
  exact lv_lneg X.1 X.2.1 hd  (K E p l e R s m args below meth c A H locs ls X Wd L)
theorem g_lshl {x : Int64} {y : Int32} (hd : decode I.1 pc = .ok (.lshl, 1))  (K : G I mc ms Q k n (pc + 1) pl (.long (x <<< (y.toInt64 &&& 63)) :: st) M z) : G I mc ms Q k n pc pl (.int y :: .long x :: st) M z := by
  intro E p l e R s m args below meth c A H locs ls X Wd L
  exact lv_lshl X.1 X.2.1 hd rfl (K E p l e R s m args below meth c A H locs ls X Wd L)
theorem g_lshr {x : Int64} {y : Int32} (hd : decode I.1 pc = .ok (.lshr, 1))  (K : G I mc ms Q k n (pc + 1) pl (.long (x >>> (y.toInt64 &&& 63)) :: st) M z) : G I mc ms Q k n pc pl (.int y :: .long x :: st) M z := by
  intro E p l e R s m args below meth c A H locs ls X Wd L
  exact lv_lshr X.1 X.2.1 hd rfl (K E p l e R s m args below meth c A H locs ls X Wd L)
theorem g_i2l {x : Int32} (hd : decode I.1 pc = .ok (.i2l, 1))  (K : G I mc ms Q k n (pc + 1) pl (.long x.toInt64 :: st) M z) : G I mc ms Q k n pc pl (.int x :: st) M z := by
  intro E p l e R s m args below meth c A H locs ls X Wd L
  exact lv_i2l X.1 X.2.1 hd rfl (K E p l e R s m args below meth c A H locs ls X Wd L)
theorem g_l2i {x : Int64} (hd : decode I.1 pc = .ok (.l2i, 1))  (K : G I mc ms Q k n (pc + 1) pl (.int x.toInt32 :: st) M z) : G I mc ms Q k n pc pl (.long x :: st) M z := by
  intro E p l e R s m args below meth c A H locs ls X Wd L
  exact lv_l2i X.1 X.2.1 hd rfl (K E p l e R s m args below meth c A H locs ls X Wd L)
theorem g_lcmp {x y : Int64} (hd : decode I.1 pc = .ok (.lcmp, 1))  (K : G I mc ms Q k n (pc + 1) pl (.int (lg_cmp x y) :: st) M z) : G I mc ms Q k n pc pl (.long y :: .long x :: st) M z := by
  intro E p l e R s m args below meth c A H locs ls X Wd L
  exact W.lcmp X.1 X.2.1 hd  (K E p l e R s m args below meth c A H locs ls X Wd L)
theorem g_dup {va : Value} (hd : decode I.1 pc = .ok (.dup, 1)) (hva : va.category = 1) (K : G I mc ms Q k n (pc + 1) pl (va :: va :: st) M z) : G I mc ms Q k n pc pl (va :: st) M z := by
  intro E p l e R s m args below meth c A H locs ls X Wd L
  exact lv_dup X.1 X.2.1 hd hva (K E p l e R s m args below meth c A H locs ls X Wd L)
theorem g_dup2 {va vb : Value} (hd : decode I.1 pc = .ok (.dup2, 1)) (hva : va.category = 1) (hvb : vb.category = 1) (K : G I mc ms Q k n (pc + 1) pl (va :: vb :: va :: vb :: st) M z) : G I mc ms Q k n pc pl (va :: vb :: st) M z := by
  intro E p l e R s m args below meth c A H locs ls X Wd L
  exact lv_dup2_11 X.1 X.2.1 hd hva hvb (K E p l e R s m args below meth c A H locs ls X Wd L)
theorem g_if_eq {x : Int32} {off : Int} {tgt : Nat} (hd : decode I.1 pc = .ok (.ifCond .eq off, 3)) (ht : (pc : Int) + off = (tgt : Int)) (kt : x = 0 → G I mc ms Q k n tgt pl st M z) (kf : ¬ x = 0 → G I mc ms Q k n (pc + 3) pl st M z) : G I mc ms Q k n pc pl (.int x :: st) M z := by
  intro E p l e R s m args below meth c A H locs ls X Wd L
  exact lv_if_eq X.1 X.2.1 hd ht (fun h => kt h E p l e R s m args below meth c A H locs ls X Wd L) (fun h => kf h E p l e R s m args below meth c A H locs ls X Wd L)
theorem g_if_ne {x : Int32} {off : Int} {tgt : Nat} (hd : decode I.1 pc = .ok (.ifCond .ne off, 3)) (ht : (pc : Int) + off = (tgt : Int)) (kt : ¬ x = 0 → G I mc ms Q k n tgt pl st M z) (kf : x = 0 → G I mc ms Q k n (pc + 3) pl st M z) : G I mc ms Q k n pc pl (.int x :: st) M z := by
  intro E p l e R s m args below meth c A H locs ls X Wd L
  exact lv_if_ne X.1 X.2.1 hd ht (fun h => kt h E p l e R s m args below meth c A H locs ls X Wd L) (fun h => kf h E p l e R s m args below meth c A H locs ls X Wd L)
theorem g_if_lt {x : Int32} {off : Int} {tgt : Nat} (hd : decode I.1 pc = .ok (.ifCond .lt off, 3)) (ht : (pc : Int) + off = (tgt : Int)) (kt : x < 0 → G I mc ms Q k n tgt pl st M z) (kf : ¬ x < 0 → G I mc ms Q k n (pc + 3) pl st M z) : G I mc ms Q k n pc pl (.int x :: st) M z := by
  intro E p l e R s m args below meth c A H locs ls X Wd L
  exact lv_if_lt X.1 X.2.1 hd ht (fun h => kt h E p l e R s m args below meth c A H locs ls X Wd L) (fun h => kf h E p l e R s m args below meth c A H locs ls X Wd L)
theorem g_if_ge {x : Int32} {off : Int} {tgt : Nat} (hd : decode I.1 pc = .ok (.ifCond .ge off, 3)) (ht : (pc : Int) + off = (tgt : Int)) (kt : 0 ≤ x → G I mc ms Q k n tgt pl st M z) (kf : ¬ 0 ≤ x → G I mc ms Q k n (pc + 3) pl st M z) : G I mc ms Q k n pc pl (.int x :: st) M z := by
  intro E p l e R s m args below meth c A H locs ls X Wd L
  exact lv_if_ge X.1 X.2.1 hd ht (fun h => kt h E p l e R s m args below meth c A H locs ls X Wd L) (fun h => kf h E p l e R s m args below meth c A H locs ls X Wd L)
theorem g_if_gt {x : Int32} {off : Int} {tgt : Nat} (hd : decode I.1 pc = .ok (.ifCond .gt off, 3)) (ht : (pc : Int) + off = (tgt : Int)) (kt : 0 < x → G I mc ms Q k n tgt pl st M z) (kf : ¬ 0 < x → G I mc ms Q k n (pc + 3) pl st M z) : G I mc ms Q k n pc pl (.int x :: st) M z := by
  intro E p l e R s m args below meth c A H locs ls X Wd L
  exact lv_if_gt X.1 X.2.1 hd ht (fun h => kt h E p l e R s m args below meth c A H locs ls X Wd L) (fun h => kf h E p l e R s m args below meth c A H locs ls X Wd L)
theorem g_if_le {x : Int32} {off : Int} {tgt : Nat} (hd : decode I.1 pc = .ok (.ifCond .le off, 3)) (ht : (pc : Int) + off = (tgt : Int)) (kt : x ≤ 0 → G I mc ms Q k n tgt pl st M z) (kf : ¬ x ≤ 0 → G I mc ms Q k n (pc + 3) pl st M z) : G I mc ms Q k n pc pl (.int x :: st) M z := by
  intro E p l e R s m args below meth c A H locs ls X Wd L
  exact lv_if_le X.1 X.2.1 hd ht (fun h => kt h E p l e R s m args below meth c A H locs ls X Wd L) (fun h => kf h E p l e R s m args below meth c A H locs ls X Wd L)
theorem g_icmp_eq {x y : Int32} {off : Int} {tgt : Nat} (hd : decode I.1 pc = .ok (.if_icmp .eq off, 3)) (ht : (pc : Int) + off = (tgt : Int)) (kt : x = y → G I mc ms Q k n tgt pl st M z) (kf : ¬ x = y → G I mc ms Q k n (pc + 3) pl st M z) : G I mc ms Q k n pc pl (.int y :: .int x :: st) M z := by
  intro E p l e R s m args below meth c A H locs ls X Wd L
  exact lv_icmp_eq X.1 X.2.1 hd ht (fun h => kt h E p l e R s m args below meth c A H locs ls X Wd L) (fun h => kf h E p l e R s m args below meth c A H locs ls X Wd L)
theorem g_icmp_ne {x y : Int32} {off : Int} {tgt : Nat} (hd : decode I.1 pc = .ok (.if_icmp .ne off, 3)) (ht : (pc : Int) + off = (tgt : Int)) (kt : ¬ x = y → G I mc ms Q k n tgt pl st M z) (kf : x = y → G I mc ms Q k n (pc + 3) pl st M z) : G I mc ms Q k n pc pl (.int y :: .int x :: st) M z := by
  intro E p l e R s m args below meth c A H locs ls X Wd L
  exact lv_icmp_ne X.1 X.2.1 hd ht (fun h => kt h E p l e R s m args below meth c A H locs ls X Wd L) (fun h => kf h E p l e R s m args below meth c A H locs ls X Wd L)
theorem g_icmp_lt {x y : Int32} {off : Int} {tgt : Nat} (hd : decode I.1 pc = .ok (.if_icmp .lt off, 3)) (ht : (pc : Int) + off = (tgt : Int)) (kt : x < y → G I mc ms Q k n tgt pl st M z) (kf : ¬ x < y → G I mc ms Q k n (pc + 3) pl st M z) : G I mc ms Q k n pc pl (.int y :: .int x :: st) M z := by
  intro E p l e R s m args below meth c A H locs ls X Wd L
  exact lv_icmp_lt X.1 X.2.1 hd ht (fun h => kt h E p l e R s m args below meth c A H locs ls X Wd L) (fun h => kf h E p l e R s m args below meth c A H locs ls X Wd L)
theorem g_icmp_ge {x y : Int32} {off : Int} {tgt : Nat} (hd : decode I.1 pc = .ok (.if_icmp .ge off, 3)) (ht : (pc : Int) + off = (tgt : Int)) (kt : y ≤ x → G I mc ms Q k n tgt pl st M z) (kf : ¬ y ≤ x → G I mc ms Q k n (pc + 3) pl st M z) : G I mc ms Q k n pc pl (.int y :: .int x :: st) M z := by
  intro E p l e R s m args below meth c A H locs ls X Wd L
  exact lv_icmp_ge X.1 X.2.1 hd ht (fun h => kt h E p l e R s m args below meth c A H locs ls X Wd L) (fun h => kf h E p l e R s m args below meth c A H locs ls X Wd L)
theorem g_icmp_gt {x y : Int32} {off : Int} {tgt : Nat} (hd : decode I.1 pc = .ok (.if_icmp .gt off, 3)) (ht : (pc : Int) + off = (tgt : Int)) (kt : y < x → G I mc ms Q k n tgt pl st M z) (kf : ¬ y < x → G I mc ms Q k n (pc + 3) pl st M z) : G I mc ms Q k n pc pl (.int y :: .int x :: st) M z := by
  intro E p l e R s m args below meth c A H locs ls X Wd L
  exact lv_icmp_gt X.1 X.2.1 hd ht (fun h => kt h E p l e R s m args below meth c A H locs ls X Wd L) (fun h => kf h E p l e R s m args below meth c A H locs ls X Wd L)
theorem g_icmp_le {x y : Int32} {off : Int} {tgt : Nat} (hd : decode I.1 pc = .ok (.if_icmp .le off, 3)) (ht : (pc : Int) + off = (tgt : Int)) (kt : x ≤ y → G I mc ms Q k n tgt pl st M z) (kf : ¬ x ≤ y → G I mc ms Q k n (pc + 3) pl st M z) : G I mc ms Q k n pc pl (.int y :: .int x :: st) M z := by
  intro E p l e R s m args below meth c A H locs ls X Wd L
  exact lv_icmp_le X.1 X.2.1 hd ht (fun h => kt h E p l e R s m args below meth c A H locs ls X Wd L) (fun h => kf h E p l e R s m args below meth c A H locs ls X Wd L)
theorem g_goto {off : Int} {tgt : Nat} (hd : decode I.1 pc = .ok (.goto off, 3)) (ht : (pc : Int) + off = (tgt : Int)) (K : G I mc ms Q k n tgt pl st M z) : G I mc ms Q k n pc pl st M z := by
  intro E p l e R s m args below meth c A H locs ls X Wd L
  exact lv_goto X.1 X.2.1 hd ht (K E p l e R s m args below meth c A H locs ls X Wd L)
theorem g_ifnull {x : Nat} {off : Int} (hd : decode I.1 pc = .ok (.ifnull off, 3)) (K : G I mc ms Q k n (pc + 3) pl st M z) : G I mc ms Q k n pc pl (.ref x :: st) M z := by
  intro E p l e R s m args below meth c A H locs ls X Wd L
  exact lv_ifnull X.1 X.2.1 hd (K E p l e R s m args below meth c A H locs ls X Wd L)
theorem g_ifnonnull {x : Nat} {off : Int} {tgt : Nat} (hd : decode I.1 pc = .ok (.ifnonnull off, 3)) (ht : (pc : Int) + off = (tgt : Int)) (K : G I mc ms Q k n tgt pl st M z) : G I mc ms Q k n pc pl (.ref x :: st) M z := by
  intro E p l e R s m args below meth c A H locs ls X Wd L
  exact lv_ifnonnull X.1 X.2.1 hd ht (K E p l e R s m args below meth c A H locs ls X Wd L)
theorem g_ldc {i : Nat} {v : Int32} (hd : decode I.1 pc = .ok (.ldc i, 2)) (hc : Cond.constant I.2.2.2.1 i v ∈ TBL) (K : G I mc ms Q k n (pc + 2) pl (.int v :: st) M z) : G I mc ms Q k n pc pl st M z := by
  intro E p l e R s m args below meth c A H locs ls X Wd L
  exact lv_ldc X.1 X.2.1 X.2.2.2.1 (X.2.2.2.2.1 _ hc) hd (K E p l e R s m args below meth c A H locs ls X Wd L)
theorem g_ldcw {i : Nat} {v : Int32} (hd : decode I.1 pc = .ok (.ldc_w i, 3)) (hc : Cond.constant I.2.2.2.1 i v ∈ TBL) (K : G I mc ms Q k n (pc + 3) pl (.int v :: st) M z) : G I mc ms Q k n pc pl st M z := by
  intro E p l e R s m args below meth c A H locs ls X Wd L
  exact lv_ldcw X.1 X.2.1 X.2.2.2.1 (X.2.2.2.2.1 _ hc) hd (K E p l e R s m args below meth c A H locs ls X Wd L)
theorem g_ldc2 {i : Nat} {v : Int64} (hd : decode I.1 pc = .ok (.ldc2_w i, 3)) (hc : Cond.constantLong I.2.2.2.1 i v ∈ TBL) (K : G I mc ms Q k n (pc + 3) pl (.long v :: st) M z) : G I mc ms Q k n pc pl st M z := by
  intro E p l e R s m args below meth c A H locs ls X Wd L
  exact lv_ldc2 X.1 X.2.1 X.2.2.2.1 (X.2.2.2.2.1 _ hc) hd (K E p l e R s m args below meth c A H locs ls X Wd L)
theorem g_ireturn {v : Int32} (hd : decode I.1 pc = .ok (.ireturn, 1)) (hr : I.2.2.1 = some .int)  (hk : k ≤ mc) (hn : n ≤ ms) (hQ : Q M z (some (.int v))) : G I mc ms Q k n pc pl [.int v] M z := by
  intro E p l e R s m args below meth c A H locs ls X Wd L
  obtain ⟨h1, h2, h3, h4, h5⟩ := Wd
  refine W.widen hk hn ?_
  exact W.iret (v := v) X.1 X.2.1 (X.2.2.2.2.2.2.1.trans hr) (fun t ht hW => ⟨⟨some (.int v), M, rfl, by rw [ht, h2]; exact hQ, by rw [ht]; exact h1, h4⟩, h3.F ht⟩) h3.2.2 hd X.2.2.2.2.2.1
theorem g_zreturn {v : Int32} (hd : decode I.1 pc = .ok (.ireturn, 1)) (hr : I.2.2.1 = some .boolean) (hv : narrow .boolean (.int v) = .int v) (hk : k ≤ mc) (hn : n ≤ ms) (hQ : Q M z (some (.int v))) : G I mc ms Q k n pc pl [.int v] M z := by
  intro E p l e R s m args below meth c A H locs ls X Wd L
  obtain ⟨h1, h2, h3, h4, h5⟩ := Wd
  refine W.widen hk hn ?_
  exact W.zret (v := v) X.1 X.2.1 (X.2.2.2.2.2.2.1.trans hr) hv (fun t ht hW => ⟨⟨some (.int v), M, rfl, by rw [ht, h2]; exact hQ, by rw [ht]; exact h1, h4⟩, h3.F ht⟩) h3.2.2 hd X.2.2.2.2.2.1
theorem g_lreturn {v : Int64} (hd : decode I.1 pc = .ok (.lreturn, 1)) (hr : I.2.2.1 = some .long)  (hk : k ≤ mc) (hn : n ≤ ms) (hQ : Q M z (some (.long v))) : G I mc ms Q k n pc pl [.long v] M z := by
  intro E p l e R s m args below meth c A H locs ls X Wd L
  obtain ⟨h1, h2, h3, h4, h5⟩ := Wd
  refine W.widen hk hn ?_
  exact W.lret (v := v) X.1 X.2.1 (X.2.2.2.2.2.2.1.trans hr) (fun t ht hW => ⟨⟨some (.long v), M, rfl, by rw [ht, h2]; exact hQ, by rw [ht]; exact h1, h4⟩, h3.F ht⟩) h3.2.2 hd X.2.2.2.2.2.1
theorem g_return (hd : decode I.1 pc = .ok (.return_, 1)) (hr : I.2.2.1 = none) (hk : k ≤ mc) (hn : n ≤ ms) (hQ : Q M z none) : G I mc ms Q k n pc pl [] M z := by
  intro E p l e R s m args below meth c A H locs ls X Wd L
  obtain ⟨h1, h2, h3, h4, h5⟩ := Wd
  refine W.widen hk hn ?_
  exact W.vret X.1 X.2.1 (X.2.2.2.2.2.2.1.trans hr) (fun t ht hW => ⟨⟨none, M, rfl, by rw [ht, h2]; exact hQ, by rw [ht]; exact h1, h4⟩, h3.F ht⟩) h3.2.2 hd X.2.2.2.2.2.1
/-- a class's place in 'classes', its fields -/
def CIs (ci : Nat) (C : String) (T : u_T) (N : Nat) (ty : Nat → FieldType) : Prop := classes[ci]? = some (C, T, N) ∧ (∀ w ∈ u_ws C T N, w ∈ TBL) ∧ (∀ k, k < N → parseFieldDescriptor (T k).2.2.1 = some (ty k)) ∧ (∀ a, a < N → ∀ b, b < N → a ≠ b → (T a).2.1 ≠ (T b).2.1) ∧ ∀ k, k < N → (T k).1 = C
def FL (own : String) (idx ci f : Nat) (C : String) (T : u_T) (N : Nat) (ty : Nat → FieldType) : Prop := CIs ci C T N ty ∧ f < N ∧ (Cond.fieldLink own idx C (T f).2.1 (T f).2.2.1 ∈ TBL ∨ ∃ host, Cond.fieldLinkNest own idx C (T f).2.1 (T f).2.2.1 host ∈ lw_tbl)
theorem FL.same {own : String} {idx ci f : Nat} {C : String} {T : u_T} {N : Nat} {ty : Nat → FieldType} (h : FL own idx ci f C T N ty) {s : State} : ∀ x, s.fieldFound? (T f).1 (T f).2.1 (T f).2.2.1 = some x → s.fieldFound? C (T f).2.1 (T f).2.2.1 = some x := fun x hx => by rw [← h.1.2.2.2.2 f h.2.1]; exact hx
theorem pH.one {E : pT} {M : pM} {H : Heap} (h : pH E M H) {a : Nat} {e : pE} (ha : M a = some e) : va_P E.1 classes [(a, pCv E e)] H := by
  intro k q hk
  match k, hk with
  | 0, hk => simp at hk; subst hk; exact h a e ha
  | k + 1, hk => simp at hk
theorem g_getf {idx ci f a : Nat} {C : String} {T : u_T} {N : Nat} {ty : Nat → FieldType} {fs : List Value} {v : Value} (fl : FL I.2.2.2.1 idx ci f C T N ty) (hd : decode I.1 pc = .ok (.getfield idx, 3)) (hM : M a = some (.inr (ci, fs))) (hv : fs[f]? = some v) (K : G I mc ms Q k n (pc + 3) pl (v :: st) M z) : G I mc ms Q k n pc pl (.ref a :: st) M z := by
  intro E p l e R s m args below meth c A H locs ls X Wd L
  have hP := Wd.1.one hM
  have hsame := fl.same (s := s)
  obtain ⟨⟨h1, h2, h3, h4, h5⟩, hf, hl | ⟨host, hl⟩⟩ := fl
  · exact va_get X.1 X.2.1 X.2.2.2.2.1 h2 X.2.2.2.1 X.2.2.2.2.2.2.2.2.2.1 hP 0 rfl h1 f hf (X.2.2.2.2.1 _ hl) hsame hv hd (K E p l e R s m args below meth c A H locs ls X Wd L)
  · exact va_getN X.1 X.2.1 X.2.2.2.2.1 h2 X.2.2.2.1 X.2.2.2.2.2.2.2.2.2.1 hP 0 rfl h1 f hf (va_Nw.use rfl (X.2.2.2.2.2.2.2.2.2.2.1 _ hl rfl)) hsame hv hd (K E p l e R s m args below meth c A H locs ls X Wd L)
theorem g_putf {idx ci f a : Nat} {C : String} {T : u_T} {N : Nat} {ty : Nat → FieldType} {fs : List Value} {v : Value} (fl : FL I.2.2.2.1 idx ci f C T N ty) (hfin : (T f).2.2.2 = false ∨ ((T f).2.2.2 = true ∧ I.2.2.2.2.2.2 = true ∧ C = I.2.2.2.1 ∧ Cond.fieldLink I.2.2.2.1 idx C (T f).2.1 (T f).2.2.1 ∈ TBL)) (hd : decode I.1 pc = .ok (.putfield idx, 3)) (hM : M a = some (.inr (ci, fs))) (hl : f < fs.length) (hn : narrow (ty f) v = v) (hft : fits (ty f) v = true) (K : G I mc ms Q k n (pc + 3) pl st (pU M a (.inr (ci, fs.set f v))) z) : G I mc ms Q k n pc pl (v :: .ref a :: st) M z := by
  intro E p l e R s m args below meth c A H locs ls X Wd L
  have hsame := fl.same (s := s)
  have hts := X.2.2.2.2.1
  have hKv := X.2.2.2.2.2.2.2.2.2.1
  obtain ⟨⟨h1, h2, h3, h4, h5⟩, hf, hlk⟩ := fl
  have hap := va_apart (own := C) hts h2 ty h3 h4 hKv h1
  obtain ⟨r, g1, cell, q1, q2, q3, q4⟩ := Wd.1 a _ hM
  have hr : r = (C, T, N) := Option.some.inj (g1.symm.trans h1)
  subst hr
  obtain ⟨hS, hfc, kC, hkC, hkind⟩ := hKv.1 ci _ h1
  obtain ⟨cf, kf, fi, fd, hi, hsl⟩ := hS f hf
  have hlay := hts _ (h2 _ (u_in_lay hf))
  have hst := (u_facts hfc hkC (u_lays hts h2 hf) hi).1
  have fin : ∀ (H' : Heap), H'[a]? = some (cell.setSlot fd.slot v) → H'.size = H.size → (∀ q, q ≠ a → H'[q]? = H[q]?) → W p l e R s m args below meth c H' (locs ++ [⟨a, fd.slot⟩]) k n (MQ below (pQ E A Q) args s mc ms A) (F0 m (pc + 3) ls st) := by
    intro H' e1 e2 e3
    rw [hsl] at e1 ⊢
    exact K E p l e R s m args below meth c A H' _ ls X (Wd.put hM (e := .inr (ci, fs.set f v)) ⟨_, h1, t_OB.to (V := updV (vp_V fs) f v) ⟨_, e1, q2, q3, t_set q4 hap hf v⟩ (fun j _ => vp_updV_set hl v j)⟩ e2 e3) L
  rcases hfin with hnf | ⟨hfi, hii, hCo, hlk2⟩
  · unfold u_lay at hlay
    rw [if_neg (by rw [hnf]; decide)] at hlay
    have h6 := u_store hfc hkC hkind hlay hi (h3 f hf) hn hft
    rcases hlk with hlk | ⟨host, hlk⟩
    · exact W.putK X.1 X.2.1 (f := fd) ⟨X.2.2.2.1, hts _ hlk, ⟨_, _, _, hsame _ hi⟩, hst⟩ (by rw [q2]; exact h6) q1 q3 (by rw [hsl]; exact k2_hasslot (q4 f hf)) rfl rfl hd fin
    · exact va_WputK X.1 X.2.1 (f := fd) X.2.2.2.1 (va_Nw.use rfl (X.2.2.2.2.2.2.2.2.2.2.1 _ hlk rfl)) (hsame _ hi) hst (by rw [q2]; exact h6) q1 q3 (by rw [hsl]; exact k2_hasslot (q4 f hf)) rfl rfl hd fin
  · unfold u_lay at hlay
    rw [if_pos hfi] at hlay
    have hcf : m.cls = cf := by
      obtain ⟨_, _, c', _, _, _, -, -, hf', -, -, -, hown2, -⟩ := Cond.laysFinal_spec hlay
      have e1 : c' = cf := by have := hi.symm.trans hf'; simp at this; exact this.1.symm
      rw [h5 f hf, hCo] at hown2
      rw [← e1]; exact Option.some.inj (X.2.2.2.1.symm.trans hown2)
    have h6 := u_fits hfc hkC hkind (Or.inr hlay) hi (h3 f hf) hn hft
    exact W.putFinK X.1 X.2.1 X.2.2.2.1 (hts _ hlk2) (hsame _ hi) hst hcf (X.2.2.2.2.2.2.2.1 hii) (by rw [q2]; exact h6) q1 q3 (by rw [hsl]; exact k2_hasslot (q4 f hf)) rfl rfl hd fin
theorem toNat_of {i : Int32} {j : Nat} (hi : i.toInt = (j : Int)) : i.toNatClampNeg = j := by
  show i.toInt.toNat = j
  omega
theorem nin_of {i : Int32} {j N : Nat} (hi : i.toInt = (j : Int)) (hj : j < N) : ¬ (i < 0 ∨ N ≤ i.toNatClampNeg) := by
  rw [toNat_of hi]
  rintro (h | h)
  · have := Int32.lt_iff_toInt_lt.mp h
    simp at this
    omega
  · omega
theorem g_iaload {a j N : Nat} {f : Nat → Int32} {i : Int32} (hd : decode I.1 pc = .ok (.iaload, 1)) (hM : M a = some (.inl (0, N, .inl f))) (hi : i.toInt = (j : Int)) (hj : j < N) (K : G I mc ms Q k n (pc + 1) pl (.int (f j) :: st) M z) : G I mc ms Q k n pc pl (.int i :: .ref a :: st) M z := by
  intro E p l e R s m args below meth c A H locs ls X Wd L
  have hP := Wd.1.one hM
  have K2 := K E p l e R s m args below meth c A H locs ls X Wd L
  rw [← toNat_of hi] at K2
  exact va_iald X.1 X.2.1 X.2.2.2.2.2.2.2.2.2.1 hP 0 0 rfl rfl (nin_of hi hj) hd K2
theorem g_baload {a j N : Nat} {f : Nat → Int32} {i : Int32} (hd : decode I.1 pc = .ok (.baload, 1)) (hM : M a = some (.inl (1, N, .inl f))) (hi : i.toInt = (j : Int)) (hj : j < N) (K : G I mc ms Q k n (pc + 1) pl (.int (f j) :: st) M z) : G I mc ms Q k n pc pl (.int i :: .ref a :: st) M z := by
  intro E p l e R s m args below meth c A H locs ls X Wd L
  have hP := Wd.1.one hM
  have K2 := K E p l e R s m args below meth c A H locs ls X Wd L
  rw [← toNat_of hi] at K2
  exact va_zald X.1 X.2.1 X.2.2.2.2.2.2.2.2.2.1 hP 0 1 rfl rfl (nin_of hi hj) hd K2
theorem g_aaload {a j N b : Nat} {f : Nat → Option Nat} {i : Int32} (hd : decode I.1 pc = .ok (.aaload, 1)) (hM : M a = some (.inl (2, N, .inr (.inr (.inr (.inr f)))))) (hi : i.toInt = (j : Int)) (hj : j < N) (hf : f j = some b) (K : G I mc ms Q k n (pc + 1) pl (.ref b :: st) M z) : G I mc ms Q k n pc pl (.int i :: .ref a :: st) M z := by
  intro E p l e R s m args below meth c A H locs ls X Wd L
  have hP := Wd.1.one hM
  have K2 := K E p l e R s m args below meth c A H locs ls X Wd L
  refine va_aldq X.1 X.2.1 X.2.2.2.2.2.2.2.2.2.1 hP 0 2 rfl rfl (nin_of hi hj) hd ?_
  rw [toNat_of hi, hf]
  exact K2
theorem g_alen {a t N : Nat} {x : (Nat → Int32) ⊕ (Nat → Int64) ⊕ (Nat → UInt32) ⊕ (Nat → UInt64) ⊕ (Nat → Option Nat)} (ht : t < 3) (hd : decode I.1 pc = .ok (.arraylength, 1)) (hM : M a = some (.inl (t, N, x))) (K : G I mc ms Q k n (pc + 1) pl (.int (nI N) :: st) M z) : G I mc ms Q k n pc pl (.ref a :: st) M z := by
  intro E p l e R s m args below meth c A H locs ls X Wd L
  have hP := Wd.1.one hM
  have K2 := K E p l e R s m args below meth c A H locs ls X Wd L
  match t, ht, hP with
  | 0, _, hP => exact va_alen X.1 X.2.1 X.2.2.2.2.2.2.2.2.2.1 hP 0 0 rfl rfl rfl hd K2
  | 1, _, hP => exact va_alen X.1 X.2.1 X.2.2.2.2.2.2.2.2.2.1 hP 0 1 rfl rfl rfl hd K2
  | 2, _, hP => exact va_alen X.1 X.2.1 X.2.2.2.2.2.2.2.2.2.1 hP 0 2 rfl rfl rfl hd K2
theorem arr_at {E : pT} {t N : Nat} {f g : Nat → Int32} {v : Value} {j a : Nat} {H' : Heap} (e : H'[a]? = some ((vp_cell (E.2 t) (N, .inl f)).setSlot j v)) (hg : ∀ q, Value.int (g q) = if q = j then v else .int (f q)) : va_at E.1 classes (a, pCv E (.inl (t, N, .inl g))) H' := by
  show H'[a]? = some (vp_cell (E.2 t) (N, .inl g))
  rw [e, vp_cell_i, vp_cell_i, arrV_store]
  congr 2
  funext q
  rw [hg q]
  rfl
theorem g_iastore {a j N : Nat} {f : Nat → Int32} {i x : Int32} (hd : decode I.1 pc = .ok (.iastore, 1)) (hM : M a = some (.inl (0, N, .inl f))) (hi : i.toInt = (j : Int)) (hj : j < N) (K : G I mc ms Q k n (pc + 1) pl st (pU M a (.inl (0, N, .inl (upd f j x)))) z) : G I mc ms Q k n pc pl (.int x :: .int i :: .ref a :: st) M z := by
  intro E p l e R s m args below meth c A H locs ls X Wd L
  refine W.iast X.1 X.2.1 (Wd.1 a _ hM) ((X.2.2.2.2.2.2.2.2.2.1.2 0 _ rfl).1 N (fun j => .int (f j))) (fun q => by cases q) (by show ¬ (i < 0 ∨ (arrV _ _ _).slots.size ≤ _); rw [arrV_size]; exact nin_of hi hj) rfl rfl hd fun H1 e1 z1 oq => ?_
  refine K E p l e R s m args below meth c A H1 _ ls X (Wd.put hM (arr_at e1 (fun q => ?_)) z1 oq) L
  rw [toNat_of hi]
  by_cases hq : q = j <;> simp [upd, hq]
theorem g_bastore {a j N : Nat} {f : Nat → Int32} {i x : Int32} (hd : decode I.1 pc = .ok (.bastore, 1)) (hM : M a = some (.inl (1, N, .inl f))) (hi : i.toInt = (j : Int)) (hj : j < N) (hx : narrow .boolean (.int x) = .int x) (K : G I mc ms Q k n (pc + 1) pl st (pU M a (.inl (1, N, .inl (upd f j x)))) z) : G I mc ms Q k n pc pl (.int x :: .int i :: .ref a :: st) M z := by
  intro E p l e R s m args below meth c A H locs ls X Wd L
  refine W.zast X.1 X.2.1 (Wd.1 a _ hM) ((X.2.2.2.2.2.2.2.2.2.1.2 1 _ rfl).1 N (fun j => .int (f j))) (fun q => by cases q) (by show ¬ (i < 0 ∨ (arrV _ _ _).slots.size ≤ _); rw [arrV_size]; exact nin_of hi hj) rfl rfl hd fun H1 e1 z1 oq => ?_
  refine K E p l e R s m args below meth c A H1 _ ls X (Wd.put hM (arr_at e1 (fun q => ?_)) z1 oq) L
  rw [toNat_of hi, hx]
  by_cases hq : q = j <;> simp [upd, hq]
theorem g_aastore {a j N b : Nat} {f : Nat → Option Nat} {i : Int32} {vs : List Value} (hcl : ∃ T n, classes[7]? = some ("ContextCoder$State", T, n)) (hd : decode I.1 pc = .ok (.aastore, 1)) (hM : M a = some (.inl (2, N, .inr (.inr (.inr (.inr f)))))) (hb : M b = some (.inr (7, vs))) (hi : i.toInt = (j : Int)) (hj : j < N) (K : G I mc ms Q k n (pc + 1) pl st (pU M a (.inl (2, N, .inr (.inr (.inr (.inr (va_up f j (some b)))))))) z) : G I mc ms Q k n pc pl (.ref b :: .int i :: .ref a :: st) M z := by
  intro E p l e R s m args below meth c A H locs ls X Wd L
  have hKv := X.2.2.2.2.2.2.2.2.2.1
  obtain ⟨T, nT, hcl⟩ := hcl
  obtain ⟨r', hr', cellV, g1, g2, g3, -⟩ := Wd.1 b _ hb
  have hcls := (hKv.1 7 _ hcl).2
  obtain ⟨kA, comp, k1, k2, k3, -⟩ := (hKv.2 2 _ rfl).2
  have hcomp : comp = E.1.1 7 := Option.some.inj (k3.symm.trans hcls.1)
  subst hcomp
  obtain ⟨kC, hkC, -⟩ := hcls.2
  have hn := nin_of hi hj
  refine W.aast X.1 X.2.1 (Wd.1 a _ hM) (fun q h => by cases h) (fun h => by cases h) k1 k2 rfl hkC ⟨fun h => hn (Or.inl h), by show _ < (arrV _ _ _).slots.size; rw [arrV_size]; exact Nat.not_le.mp (fun h => hn (Or.inr h))⟩ g1 (fun q h => by rw [g3] at h; cases h) (by rw [g2]; exact hkC) (by rw [g2]; exact va_assign hcls) rfl rfl hd fun H1 e1 z1 oq => ?_
  refine K E p l e R s m args below meth c A H1 _ ls X (Wd.put hM ?_ z1 oq) L
  show H1[a]? = some (vp_cell (E.2 2) (N, .inr (.inr (.inr (.inr (va_up f j (some b)))))))
  rw [e1]
  show some ((vp_cell (E.2 2) (N, .inr (.inr (.inr (.inr f))))).setSlot _ (.ref b)) = _
  rw [vp_cell_q, vp_cell_q, arrV_store]
  congr 2
  funext q
  rw [toNat_of hi]
  by_cases hq : q = j
  · subst hq; simp [updV, va_up, va_rf]
  · simp [updV, va_up, hq]
theorem g_new {idx ci : Nat} {C : String} {T : u_T} {N : Nat} {ty : Nat → FieldType} {fs : List Value} (hc : CIs ci C T N ty) (hl : Cond.classLink I.2.2.2.1 idx C ∈ TBL ∧ Cond.instantiable C N ∈ TBL ∧ Cond.initialized C ∈ TBL) (hd : decode I.1 pc = .ok (.new idx, 3)) (hfs : ∀ j, j < N → defaultValue (ty j) = vp_V fs j) (hk : k + 1 ≤ mc) (hn : n + N ≤ ms) (K : M z = none → G I mc ms Q (k + 1) (n + N) (pc + 3) pl (.ref z :: st) (pU M z (.inr (ci, fs))) (z + 1)) : G I mc ms Q k n pc pl st M z := by
  intro E p l e R s m args below meth c A H locs ls X Wd L
  have hts := X.2.2.2.2.1
  have hKn := X.2.2.2.2.2.2.2.2.2.1.1 ci _ hc.1
  have hR : R = pR I mc ms := X.2.2.2.2.2.2.2.2.1
  have hnone : M z = none := by
    cases hz : M z with
    | none => rfl
    | some e0 => exact absurd (Wd.1.lt hz) (by rw [Wd.2.1]; omega)
  refine W.newcK X.1 X.2.1 X.2.2.2.1 (hts _ hl.1) (hts _ hl.2.1) (hts _ hl.2.2) rfl hd (by rw [hR]; exact hk) (by rw [hR]; exact hn) hKn.2.1 Wd.2.1 fun H1 kC hkC e1 z1 o1 => ?_
  exact K hnone E p l e R s m args below meth c A H1 locs ls X (Wd.new (e := .inr (ci, fs)) ⟨_, hc.1, (u_born ty hts hc.2.1 hKn hkC e1 hc.2.2.1).to hfs⟩ z1 o1) L
theorem g_newarr {t : Nat} {at_ : ArrayType} {N : Nat} {i : Int32} (hty : (t = 0 ∧ newarray.typeOf at_ = .int) ∨ (t = 1 ∧ newarray.typeOf at_ = .boolean)) (hw : Cond.arrayClass (newarray.typeOf at_) ∈ TBL) (hd : decode I.1 pc = .ok (.newarray at_, 2)) (hi : i.toInt = (N : Int)) (hN : N ≤ 100000000) (hk : k + 1 ≤ mc) (hn : n + N ≤ ms) (K : M z = none → G I mc ms Q (k + 1) (n + N) (pc + 2) pl (.ref z :: st) (pU M z (.inl (t, N, .inl (fun _ => 0)))) (z + 1)) : G I mc ms Q k n pc pl (.int i :: st) M z := by
  intro E p l e R s m args below meth c A H locs ls X Wd L
  have hts := X.2.2.2.2.1
  have hR : R = pR I mc ms := X.2.2.2.2.2.2.2.2.1
  have hKv := X.2.2.2.2.2.2.2.2.2.1
  have hnone : M z = none := by
    cases hz : M z with
    | none => rfl
    | some e0 => exact absurd (Wd.1.lt hz) (by rw [Wd.2.1]; omega)
  have hn0 : ¬ i < 0 := fun h => by
    have := Int32.lt_iff_toInt_lt.mp h
    simp at this
    omega
  have hcb : componentBytes (newarray.typeOf at_) ≤ 4 := by rcases hty with ⟨-, h⟩ | ⟨-, h⟩ <;> rw [h] <;> decide
  have hbytes : N * componentBytes (newarray.typeOf at_) ≤ 536870912 := by
    have h1 : N * componentBytes (newarray.typeOf at_) ≤ N * 4 := Nat.mul_le_mul_left _ hcb
    omega
  refine va_newaK X.1 X.2.1 (hts _ hw) rfl hd rfl hn0 (toNat_of hi) hbytes (by rw [hR]; exact hk) (by rw [hR]; exact hn) Wd.2.1 fun H1 cA e1 z1 o1 hAr hNm => ?_
  have hcA : cA = E.2 t := by
    rcases hty with ⟨rfl, h⟩ | ⟨rfl, h⟩
    · rw [h] at hNm
      exact Option.some.inj (hNm.symm.trans (hKv.2 0 _ rfl).2)
    · rw [h] at hNm
      exact Option.some.inj (hNm.symm.trans (hKv.2 1 _ rfl).2)
  have hdv : defaultValue (newarray.typeOf at_) = .int 0 := by rcases hty with ⟨-, h⟩ | ⟨-, h⟩ <;> rw [h] <;> rfl
  refine K hnone E p l e R s m args below meth c A H1 locs ls X (Wd.new (e := .inl (t, N, .inl (fun _ => 0))) ?_ z1 o1) L
  show H1[z]? = some (vp_cell (E.2 t) (N, .inl (fun _ => 0)))
  rw [e1, hcA, hdv]
  rfl
theorem g_anewarr {idx N : Nat} {i : Int32} (hl : Cond.classLink I.2.2.2.1 idx "ContextCoder$State" ∈ TBL) (hd : decode I.1 pc = .ok (.anewarray idx, 3)) (hi : i.toInt = (N : Int)) (hN : N ≤ 100000000) (hk : k + 1 ≤ mc) (hn : n + N ≤ ms) (K : M z = none → G I mc ms Q (k + 1) (n + N) (pc + 3) pl (.ref z :: st) (pU M z (.inl (2, N, .inr (.inr (.inr (.inr (fun _ => none))))))) (z + 1)) : G I mc ms Q k n pc pl (.int i :: st) M z := by
  intro E p l e R s m args below meth c A H locs ls X Wd L
  have hts := X.2.2.2.2.1
  have hR : R = pR I mc ms := X.2.2.2.2.2.2.2.2.1
  have hKv := X.2.2.2.2.2.2.2.2.2.1
  have hnone : M z = none := by
    cases hz : M z with
    | none => rfl
    | some e0 => exact absurd (Wd.1.lt hz) (by rw [Wd.2.1]; omega)
  have hn0 : ¬ i < 0 := fun h => by
    have := Int32.lt_iff_toInt_lt.mp h
    simp at this
    omega
  have hT := toNat_of hi
  have hz := Wd.2.1
  refine W.anew X.1 X.2.1 X.2.2.2.1 (hts _ hl) (va_AO.use X.2.2.2.2.2.2.2.2.2.2.2) rfl hd rfl hn0 (by rw [hT]; omega) (by rw [hR]; exact hk) (by rw [hR, hT]; exact hn) fun cA kA comp f1 f2 f3 f4 => ?_
  rw [hT]
  generalize hH1 : H.push ({ cls := cA, slots := Array.replicate N .null, vm := .none } : Cell) = H1
  have z1 : H1.size = z + 1 := by rw [← hH1, Array.size_push, hz]
  have e1 : H1[z]? = some (arrV cA N (fun _ => .null)) := by rw [← hH1, ← hz, Array.getElem?_push_size, ← arrV_new]
  have o1 : ∀ q : Nat, q < z → H1[q]? = H[q]? := fun q hq => by rw [← hH1, Array.getElem?_push, if_neg (by omega)]
  have hcA : cA = E.2 2 := by
    obtain ⟨kA', comp', u1, u2, u3, u4⟩ := (hKv.2 2 _ rfl).2
    exact Option.some.inj (f1.symm.trans u4)
  rw [hz]
  refine K hnone E p l e R s m args below meth c A H1 locs ls X (Wd.new (e := .inl (2, N, .inr (.inr (.inr (.inr (fun _ => none)))))) ?_ z1 o1) L
  show H1[z]? = some (vp_cell (E.2 2) _)
  rw [e1, hcA]
  rfl
end GR
/-! calls -/
/-- what the tables say of a method: its code, its class initialised, how many arguments -/
def LkB (y : MethodName) (J : MI) (nA : Nat) : Prop := Cond.code y J.1 J.2.1 J.2.2.1 ∈ TBL ∧ Cond.initialized y.cls ∈ TBL ∧ (y.cls ≠ "java/lang/invoke/MethodHandle" ∧ y.cls ≠ "java/lang/invoke/VarHandle" ∧ (parseMethodDescriptor y.desc).map (fun d => d.parameters.length) = some nA) ∧ J.2.2.2.1 = y.cls
def LkM (own : String) (idx : Nat) (y : MethodName) : Prop := Cond.methodLink own idx y ∈ TBL ∨ ∃ host, Cond.methodLinkNest own idx y host ∈ lw_tbl
def LkV (y : MethodName) (J : MI) (nA : Nat) : Prop := LkB y J nA ∧ Cond.instanceMethod y ∈ TBL ∧ Cond.selects y.cls y y ∈ TBL
def LkS (y : MethodName) (J : MI) (nA : Nat) : Prop := LkB y J nA ∧ Cond.static y ∈ TBL
def LkI (y : MethodName) (J : MI) (nA : Nat) : Prop := LkB y J nA ∧ Cond.instanceMethod y ∈ TBL ∧ y.name = "<init>" ∧ J.2.2.1 = none
def pRoom (I J : MI) : Prop := J.2.2.2.2.1 + 1 ≤ I.2.2.2.2.1 ∧ 8 + (J.2.1 + 11) + J.2.2.2.2.2.1 ≤ I.2.2.2.2.2.1
theorem TBL_sub {y : MethodName} {J : MI} {nA : Nat} (h : LkB y J nA) : GoodIn TBL (Cond.code y J.1 J.2.1 J.2.2.1 :: TBL) := by
  intro w hw
  rcases List.mem_cons.mp hw with rfl | hw
  · exact ⟨h.1, TBL_good _ h.1⟩
  · exact ⟨hw, TBL_good _ hw⟩
theorem blind {E : pT} {M : pM} {z : Nat} {av : List Value} : FrameBlind (va_Pc av (fun U => U.heap.size = z ∧ pH E M U.heap ∧ pK E U)) :=
  fun a U g mk q => ⟨q.1, q.2.1, q.2.2.1, pK.same (rfl : U.vm = (U.calling g mk a).vm) (Vm.Alike.refl U.vm) q.2.2.2⟩
section GC
variable {p : Program} {l : Launch} {e : Env} {R : Room} {s : State} {m : MethodId} {args : Array Value} {below : List Frame} {meth : Method} {c : Code} {H : Heap} {locs : List Loc} {cells slots : Nat} {Qz : State → Prop}
theorem pCall {E : pT} {A : Nat → Prop} {M : pM} {z mc' ms' pc : Nat} {ls : Array Slot} {st rest : List Value} {Q' : pM → Nat → Option Value → Prop} {a : Array Value} (hr : va_Run p l e R s m args below meth c H locs cells slots mc' ms' (F0 m pc ls st) rest (pQ E (AA M z) Q' a) (AA M z)) (Wd : pW E A s M z H locs)
    (kk : ∀ (r : Option Value) (M' : pM) (z' : Nat) (H1 : Heap) (locs1 : List Loc), Q' M' z' r → pW E A s M' z' H1 locs1 → W p l e R s m args below meth c H1 locs1 (cells + mc') (slots + ms') Qz (F0 m (pc + 3) ls (r.toList ++ rest))) : W p l e R s m args below meth c H locs cells slots Qz (F0 m pc ls st) := by
  intro T hT X
  obtain ⟨v, st₀, t, T', L, h0, X', hL, e1, e2, ⟨⟨r, M', hv, hq, hb, hd⟩, hz, hk⟩, st⟩ := hr T hT X
  cases hv
  rw [h0] at hz hk
  obtain ⟨g1, g2, g3, g4, g5⟩ := Wd
  have hle : s.heap.size ≤ z := by rw [← g2]; exact g3.1
  have hAA : ∀ q, AA M z q → A q := by
    rintro q (⟨e0, h⟩ | h)
    · exact g4 q e0 h
    · exact g5 q (Nat.le_trans hle h)
  have hloc : ∀ q ∈ locs ++ L, A q.base := fun q hq => by
    rcases List.mem_append.mp hq with h | h
    · exact g3.2.2 q h
    · exact hAA _ (hL q h)
  obtain ⟨t2, a1, b1⟩ := kk v M' t.heap.size t.heap (locs ++ L) hq ⟨hb, rfl, ⟨Nat.le_trans g3.1 hz, fun q h1 h2 => by rw [hk q (Nat.lt_of_lt_of_le h1 g3.1) (fun h => h2 (hAA q h))]; exact g3.2.1 q h1 h2, hloc⟩, fun q e0 h => hAA q (hd q e0 h), g5⟩ T' e1 X'
  exact ⟨t2, st t2 a1, b1⟩
end GC
section GR2
variable {I : MI} {mc ms : Nat} {Q : pM → Nat → Option Value → Prop} {k n pc : Nat} {pl : List (Option Value)} {st : List Value} {M : pM} {z : Nat}
theorem g_callV {J : MI} {y : MethodName} {idx nA b ci mc' ms' : Nat} {As rest fs : List Value} {T : u_T} {N : Nat} {Q' : pM → Nat → Option Value → Prop} (hd : decode I.1 pc = .ok (.invokevirtual idx, 3)) (lm : LkM I.2.2.2.1 idx y) (lk : LkV y J nA) (hC : C J y (.ref b :: As) M z mc' ms' Q') (hst : st = As.reverse ++ .ref b :: rest) (hn : As.length = nA) (hM : M b = some (.inr (ci, fs))) (hci : classes[ci]? = some (y.cls, T, N)) (hroom : pRoom I J) (hW : (rest.map fun v => v.category).sum ≤ 8) (hk : k + mc' ≤ mc) (hs : n + ms' ≤ ms)
    (K : ∀ M' z' r, Q' M' z' r → G I mc ms Q (k + mc') (n + ms') (pc + 3) pl (r.toList ++ rest) M' z') : G I mc ms Q k n pc pl st M z := by
  intro E p l e R s m args below meth c A H locs ls X Wd L
  have hts := X.2.2.2.2.1
  have hKv := X.2.2.2.2.2.2.2.2.2
  have hR : R = pR I mc ms := X.2.2.2.2.2.2.2.2.1
  have hrec := va_recv (D := E.1) (cl := classes) hKv.1 (Wd.1.one hM) (ci := ci) (q0 := 0) hci rfl
  have hpre : PreV s H y.cls b (va_Pc (.ref b :: As) (fun U => U.heap.size = z ∧ pH E M U.heap ∧ pK E U)) As := ⟨blind, hrec, fun U hU hW => ⟨rfl, by rw [hU]; exact Wd.2.1, by rw [hU]; exact Wd.1, hKv.moved hW⟩⟩
  have hcb : (pR J mc' ms').frames + 1 ≤ R.frames ∧ 8 + (J.2.1 + 11) + (pR J mc' ms').locals ≤ R.locals := by rw [hR]; exact hroom
  have hf : k + mc' ≤ R.cells ∧ n + ms' ≤ R.slots := by rw [hR]; exact ⟨hk, hs⟩
  rcases lm with lm | ⟨host, lm⟩
  · refine pCall (va_runV (As := As) (rest := rest) ⟨X.1, X.2.1, X.2.2.1, X.2.2.2.1, hts⟩ (hC l E) ⟨callB_of nA hts (TBL_sub lk.1) rfl rfl rfl (hts _ lk.1.2.1) (hts _ lm) lk.1.2.2.1 hcb, hts _ lk.2.1, hts _ lk.2.2⟩ hpre rfl hn L.2.1 hst (lv_room hW) hd hf) Wd ?_
    exact fun r M' z' H1 locs1 hq hw => K M' z' r hq E p l e R s m args below meth c A H1 locs1 ls X hw L
  · refine pCall (va_runVN (As := As) (rest := rest) ⟨X.1, X.2.1, X.2.2.1, X.2.2.2.1, hts⟩ (hC l E) ⟨va_cnB nA hts (TBL_sub lk.1) rfl rfl rfl (hKv.2.1 _ lm rfl) (hts _ lk.1.2.1) lk.1.2.2.1 hcb, hts _ lk.2.1, hts _ lk.2.2⟩ hpre rfl hn L.2.1 hst (lv_room hW) hd hf) Wd ?_
    exact fun r M' z' H1 locs1 hq hw => K M' z' r hq E p l e R s m args below meth c A H1 locs1 ls X hw L
theorem g_callS {J : MI} {y : MethodName} {idx nA mc' ms' : Nat} {As rest : List Value} {Q' : pM → Nat → Option Value → Prop} (hd : decode I.1 pc = .ok (.invokestatic idx, 3)) (lm : LkM I.2.2.2.1 idx y) (lk : LkS y J nA) (hC : C J y As M z mc' ms' Q') (hst : st = As.reverse ++ rest) (hn : As.length = nA) (hroom : pRoom I J) (hW : (rest.map fun v => v.category).sum ≤ 8) (hk : k + mc' ≤ mc) (hs : n + ms' ≤ ms)
    (K : ∀ M' z' r, Q' M' z' r → G I mc ms Q (k + mc') (n + ms') (pc + 3) pl (r.toList ++ rest) M' z') : G I mc ms Q k n pc pl st M z := by
  intro E p l e R s m args below meth c A H locs ls X Wd L
  have hts := X.2.2.2.2.1
  have hKv := X.2.2.2.2.2.2.2.2.2
  have hR : R = pR I mc ms := X.2.2.2.2.2.2.2.2.1
  have hpre : PreS s H (va_Pc As (fun U => U.heap.size = z ∧ pH E M U.heap ∧ pK E U)) As := ⟨blind, fun U hU hW => ⟨rfl, by rw [hU]; exact Wd.2.1, by rw [hU]; exact Wd.1, hKv.moved hW⟩⟩
  have hcb : (pR J mc' ms').frames + 1 ≤ R.frames ∧ 8 + (J.2.1 + 11) + (pR J mc' ms').locals ≤ R.locals := by rw [hR]; exact hroom
  have hf : k + mc' ≤ R.cells ∧ n + ms' ≤ R.slots := by rw [hR]; exact ⟨hk, hs⟩
  rcases lm with lm | ⟨host, lm⟩
  · refine pCall (va_runS (As := As) (rest := rest) ⟨X.1, X.2.1, X.2.2.1, X.2.2.2.1, hts⟩ (hC l E) ⟨callB_of nA hts (TBL_sub lk.1) rfl rfl rfl (hts _ lk.1.2.1) (hts _ lm) lk.1.2.2.1 hcb, hts _ lk.2⟩ hpre rfl hn L.2.1 hst (lv_room hW) hd hf) Wd ?_
    exact fun r M' z' H1 locs1 hq hw => K M' z' r hq E p l e R s m args below meth c A H1 locs1 ls X hw L
  · refine pCall (va_runSN (As := As) (rest := rest) ⟨X.1, X.2.1, X.2.2.1, X.2.2.2.1, hts⟩ (hC l E) ⟨va_cnB nA hts (TBL_sub lk.1) rfl rfl rfl (hKv.2.1 _ lm rfl) (hts _ lk.1.2.1) lk.1.2.2.1 hcb, hts _ lk.2, trivial⟩ hpre rfl hn L.2.1 hst (lv_room hW) hd hf) Wd ?_
    exact fun r M' z' H1 locs1 hq hw => K M' z' r hq E p l e R s m args below meth c A H1 locs1 ls X hw L
theorem g_callI {J : MI} {y : MethodName} {idx nA b mc' ms' : Nat} {As rest : List Value} {Q' : pM → Nat → Option Value → Prop} (hd : decode I.1 pc = .ok (.invokespecial idx, 3)) (lm : LkM I.2.2.2.1 idx y) (lk : LkI y J nA) (hC : C J y (.ref b :: As) M z mc' ms' Q') (hst : st = As.reverse ++ .ref b :: rest) (hn : As.length = nA) (hroom : pRoom I J) (hW : (rest.map fun v => v.category).sum ≤ 8) (hk : k + mc' ≤ mc) (hs : n + ms' ≤ ms)
    (K : ∀ M' z' r, Q' M' z' r → G I mc ms Q (k + mc') (n + ms') (pc + 3) pl (r.toList ++ rest) M' z') : G I mc ms Q k n pc pl st M z := by
  intro E p l e R s m args below meth c A H locs ls X Wd L
  have hts := X.2.2.2.2.1
  have hKv := X.2.2.2.2.2.2.2.2.2
  have hR : R = pR I mc ms := X.2.2.2.2.2.2.2.2.1
  have hpre : PreS s H (va_Pc (.ref b :: As) (fun U => U.heap.size = z ∧ pH E M U.heap ∧ pK E U)) (.ref b :: As) := ⟨blind, fun U hU hW => ⟨rfl, by rw [hU]; exact Wd.2.1, by rw [hU]; exact Wd.1, hKv.moved hW⟩⟩
  have hcb : (pR J mc' ms').frames + 1 ≤ R.frames ∧ 8 + (J.2.1 + 11) + (pR J mc' ms').locals ≤ R.locals := by rw [hR]; exact hroom
  have hf : k + mc' ≤ R.cells ∧ n + ms' ≤ R.slots := by rw [hR]; exact ⟨hk, hs⟩
  have hM := hC l E
  have hB := lk.1
  obtain ⟨J1, J2, J3, J4⟩ := J
  obtain ⟨-, hin, hnm, hret⟩ := lk
  have hret : J3 = none := hret
  subst hret
  rcases lm with lm | ⟨host, lm⟩
  · refine pCall (va_runI (As := As) (rest := rest) ⟨X.1, X.2.1, X.2.2.1, X.2.2.2.1, hts⟩ hM ⟨callB_of nA hts (TBL_sub hB) rfl rfl rfl (hts _ hB.2.1) (hts _ lm) hB.2.2.1 hcb, hnm, hts _ hin⟩ hpre rfl hn L.2.1 hst (lv_room hW) hd hf) Wd ?_
    exact fun r M' z' H1 locs1 hq hw => K M' z' r hq E p l e R s m args below meth c A H1 locs1 ls X hw L
  · refine pCall (va_runIN (As := As) (rest := rest) ⟨X.1, X.2.1, X.2.2.1, X.2.2.2.1, hts⟩ hM ⟨va_cnB nA hts (TBL_sub hB) rfl rfl rfl (hKv.2.1 _ lm rfl) (hts _ hB.2.1) hB.2.2.1 hcb, hnm, hts _ hin⟩ hpre rfl hn L.2.1 hst (lv_room hW) hd hf) Wd ?_
    exact fun r M' z' H1 locs1 hq hw => K M' z' r hq E p l e R s m args below meth c A H1 locs1 ls X hw L
theorem g_objInit {idx b : Nat} (hl : Cond.methodLink I.2.2.2.1 idx Lib.objectInit ∈ TBL ∧ Cond.instanceMethod Lib.objectInit ∈ TBL ∧ Cond.code Lib.objectInit ⟨#[0xb1]⟩ 1 none ∈ TBL) (hd : decode I.1 pc = .ok (.invokespecial idx, 3)) (hroom : 1 ≤ I.2.2.2.2.1 ∧ (st.map fun v => v.category).sum + 12 ≤ I.2.2.2.2.2.1) (K : G I mc ms Q k n (pc + 3) pl st M z) : G I mc ms Q k n pc pl (.ref b :: st) M z := by
  intro E p l e R s m args below meth c A H locs ls X Wd L
  have hts := X.2.2.2.2.1
  have hR : R = pR I mc ms := X.2.2.2.2.2.2.2.2.1
  refine W.objInit X.1 X.2.1 X.2.2.2.1 (hts _ hl.1) (hts _ hl.2.1) (hts _ hl.2.2) rfl (by rw [X.2.2.1]; exact L.2.1) rfl hd (by rw [hR]; exact hroom.1) (by rw [hR]; show 2 * 0 + _ + 12 ≤ _; have := hroom.2; show _ ≤ I.2.2.2.2.2.1; omega) ?_
  exact K E p l e R s m args below meth c A H locs ls X Wd L
theorem g_max {idx : Nat} {x y : Int32} (hl : Cond.methodLink I.2.2.2.1 idx Lib.Math.max.name ∈ TBL ∧ Cond.static Lib.Math.max.name ∈ TBL ∧ Cond.initialized "java/lang/Math" ∈ TBL ∧ Cond.code Lib.Math.max.name Lib.Math.max.code 2 (some .int) ∈ TBL) (hd : decode I.1 pc = .ok (.invokestatic idx, 3)) (hroom : 1 ≤ I.2.2.2.2.1 ∧ (st.map fun v => v.category).sum + 13 ≤ I.2.2.2.2.2.1) (hk : k ≤ mc) (hn : n ≤ ms) (K : G I mc ms Q k n (pc + 3) pl (.int (if x < y then y else x) :: st) M z) : G I mc ms Q k n pc pl (.int y :: .int x :: st) M z := by
  intro E p l e R s m args below meth c A H locs ls X Wd L
  have hts := X.2.2.2.2.1
  have hR : R = pR I mc ms := X.2.2.2.2.2.2.2.2.1
  exact va_mmax X.1 X.2.1 (by rw [X.2.2.1]; exact L.2.1.symm) X.2.2.2.1 (hts _ hl.1) (hts _ hl.2.1) (hts _ hl.2.2.1) (hts _ hl.2.2.2) (by rw [hR]; exact hroom.1) (by rw [hR]; exact hroom.2) (by rw [hR]; exact hk) (by rw [hR]; exact hn) hd (K E p l e R s m args below meth c A H locs ls X Wd L)
theorem g_min {idx : Nat} {x y : Int32} (hl : Cond.methodLink I.2.2.2.1 idx Lib.Math.min.name ∈ TBL ∧ Cond.static Lib.Math.min.name ∈ TBL ∧ Cond.initialized "java/lang/Math" ∈ TBL ∧ Cond.code Lib.Math.min.name Lib.Math.min.code 2 (some .int) ∈ TBL) (hd : decode I.1 pc = .ok (.invokestatic idx, 3)) (hroom : 1 ≤ I.2.2.2.2.1 ∧ (st.map fun v => v.category).sum + 13 ≤ I.2.2.2.2.2.1) (hk : k ≤ mc) (hn : n ≤ ms) (K : G I mc ms Q k n (pc + 3) pl (.int (if y < x then y else x) :: st) M z) : G I mc ms Q k n pc pl (.int y :: .int x :: st) M z := by
  intro E p l e R s m args below meth c A H locs ls X Wd L
  have hts := X.2.2.2.2.1
  have hR : R = pR I mc ms := X.2.2.2.2.2.2.2.2.1
  exact va_mmin X.1 X.2.1 (by rw [X.2.2.1]; exact L.2.1.symm) X.2.2.2.1 (hts _ hl.1) (hts _ hl.2.1) (hts _ hl.2.2.1) (hts _ hl.2.2.2) (by rw [hR]; exact hroom.1) (by rw [hR]; exact hroom.2) (by rw [hR]; exact hk) (by rw [hR]; exact hn) hd (K E p l e R s m args below meth c A H locs ls X Wd L)
theorem g_minL {idx : Nat} {x y : Int64} (hl : Cond.methodLink I.2.2.2.1 idx Lib.MathLoose.min_long.x ∈ TBL ∧ Cond.static Lib.MathLoose.min_long.x ∈ TBL ∧ Cond.initialized "java/lang/Math" ∈ TBL ∧ Cond.code Lib.MathLoose.min_long.x Lib.MathLoose.min_long.code 4 (some .long) ∈ TBL) (hd : decode I.1 pc = .ok (.invokestatic idx, 3)) (hroom : 1 ≤ I.2.2.2.2.1 ∧ (st.map fun v => v.category).sum + 15 ≤ I.2.2.2.2.2.1) (hk : k ≤ mc) (hn : n ≤ ms) (K : G I mc ms Q k n (pc + 3) pl (.long (if y < x then y else x) :: st) M z) : G I mc ms Q k n pc pl (.long y :: .long x :: st) M z := by
  intro E p l e R s m args below meth c A H locs ls X Wd L
  have hts := X.2.2.2.2.1
  have hR : R = pR I mc ms := X.2.2.2.2.2.2.2.2.1
  exact va_mmin_long X.1 X.2.1 (by rw [X.2.2.1]; exact L.2.1.symm) X.2.2.2.1 (hts _ hl.1) (hts _ hl.2.1) (hts _ hl.2.2.1) (hts _ hl.2.2.2) (by rw [hR]; exact hroom.1) (by rw [hR]; exact hroom.2) (by rw [hR]; exact hk) (by rw [hR]; exact hn) hd (K E p l e R s m args below meth c A H locs ls X Wd L)
/-- System.arraycopy between two int arrays, from place 0 to place 0 or from anywhere -/
theorem g_copy {idx a0 a n0 n1 js jd jn : Nat} {f g : Nat → Int32} {sp dp i : Int32} (hl : Cond.methodLink I.2.2.2.1 idx arraycopyName ∈ TBL ∧ Cond.native arraycopyName ∈ TBL ∧ Cond.static arraycopyName ∈ TBL ∧ Cond.initialized "java/lang/System" ∈ TBL) (hd : decode I.1 pc = .ok (.invokestatic idx, 3)) (hroom : 1 ≤ I.2.2.2.2.1 ∧ (st.map fun v => v.category).sum + (nativeFrameWords "java/lang/System" "arraycopy" 5 + 11) ≤ I.2.2.2.2.2.1) (hM0 : M a0 = some (.inl (0, n0, .inl f))) (hM : M a = some (.inl (0, n1, .inl g))) (hs : sp.toInt = (js : Int)) (hdp : dp.toInt = (jd : Int)) (hi : i.toInt = (jn : Int)) (h4 : js + jn ≤ n0) (h5 : jd + jn ≤ n1)
    (K : G I mc ms Q k n (pc + 3) pl st (pU M a (.inl (0, n1, .inl (va_cpy f g js jd jn)))) z) : G I mc ms Q k n pc pl (.int i :: .int dp :: .ref a :: .int sp :: .ref a0 :: st) M z := by
  intro E p l e R s m args below meth c A H locs ls X Wd L
  have hts := X.2.2.2.2.1
  have hR : R = pR I mc ms := X.2.2.2.2.2.2.2.2.1
  have hKv := X.2.2.2.2.2.2.2.2.2
  have neg : ∀ {x : Int32} {j : Nat}, x.toInt = (j : Int) → ¬ x < 0 := fun {x j} h q => by
    have := Int32.lt_iff_toInt_lt.mp q
    simp at this
    omega
  intro T hT Xs
  have hc0 : H[a0]? = some (vp_cell (E.2 0) (n0, .inl f)) := Wd.1 a0 _ hM0
  have hc1 : H[a]? = some (vp_cell (E.2 0) (n1, .inl g)) := Wd.1 a _ hM
  obtain ⟨-, k0, hk0, cm0, hkk0⟩ := (hKv.1.2 0 _ rfl).1 n0 (fun j => .int (f j))
  obtain ⟨-, k1, hk1, cm1, hkk1⟩ := (hKv.1.2 0 _ rfl).1 n1 (fun j => .int (g j))
  have hts' := toNat_of hs
  have htd' := toNat_of hdp
  have hti' := toNat_of hi
  obtain ⟨vm', X', step⟩ := Xs.arraycopy X.1 X.2.2.2.1 (hts _ hl.1) (hts _ hl.2.1) (hts _ hl.2.2.1) (hts _ hl.2.2.2) (src := a0) (dst := a) (cs := vp_cell (E.2 0) (n0, .inl f)) (cd := vp_cell (E.2 0) (n1, .inl g)) (srcPos := sp) (destPos := dp) (n := i) (by rw [hT]; exact hc0) (by rw [hT]; exact hc1)
    (fun _ h => by cases h) (fun _ h => by cases h) (fun h => by cases h) (fun h => by cases h) hk0 hk1 hkk0 hkk1 (by simp [refKind]) (neg hs) (neg hdp) (neg hi)
    (by rw [hs, hi]; show ¬ _ > ((arrV (E.2 0) n0 (fun j => .int (f j))).slots.size : Int); rw [arrV_size]; omega)
    (by rw [hdp, hi]; show ¬ _ > ((arrV (E.2 0) n1 (fun j => .int (g j))).slots.size : Int); rw [arrV_size]; omega)
    (fun vm₁ _ q hq => by
      have e : (vp_cell (E.2 0) (n0, .inl f)).slots.getD (sp.toNatClampNeg + q) .null = .int (f (sp.toNatClampNeg + q)) := by
        show (arrV (E.2 0) n0 (fun j => .int (f j))).slots.getD _ _ = _
        rw [Array.getD_eq_getD_getElem?, arrV_read _ _ (by omega)]
        rfl
      refine ⟨?_, ?_⟩
      · rw [e]
        rfl
      · rw [e]
        exact trivial)
    (g := F0 m pc ls (.int i :: .int dp :: .ref a :: .int sp :: .ref a0 :: st)) rfl (by rw [X.2.2.1]; exact L.2.1) (rest := st) rfl (by rw [X.2.1]; exact hd) (by rw [hR]; exact hroom.1) (by rw [hR]; show 2 * 0 + _ + _ ≤ _; have := hroom.2; show _ ≤ I.2.2.2.2.2.1; omega)
  have e1 : copied (vp_cell (E.2 0) (n0, .inl f)) (vp_cell (E.2 0) (n1, .inl g)) sp dp i = vp_cell (E.2 0) (n1, .inl (va_cpy f g js jd jn)) := by
    rw [← hts', ← htd', ← hti']
    exact va_copied (fun z => .int z) (E.2 0) (E.2 0) f g (by omega)
  rw [e1] at X' step
  have hl : a < H.size := (Array.getElem?_eq_some_iff.mp hc1).1
  have hheap : ((T.setVm vm').setCell a (vp_cell (E.2 0) (n1, .inl (va_cpy f g js jd jn)))).heap = H.setIfInBounds a (vp_cell (E.2 0) (n1, .inl (va_cpy f g js jd jn))) := by rw [← hT]; rfl
  have oq : ∀ q : Nat, q ≠ a → (H.setIfInBounds a (vp_cell (E.2 0) (n1, .inl (va_cpy f g js jd jn))))[q]? = H[q]? := fun q hq => by simp [Array.getElem?_setIfInBounds, Ne.symm hq]
  have hput := Wd.put (i := 0) hM (e := .inl (0, n1, .inl (va_cpy f g js jd jn))) (H' := H.setIfInBounds a (vp_cell (E.2 0) (n1, .inl (va_cpy f g js jd jn)))) (show (H.setIfInBounds a _)[a]? = some _ by simp [Array.getElem?_setIfInBounds, hl, pCv]) (by simp) oq
  have hAa := Wd.2.2.2.1 a _ hM
  obtain ⟨t, a1, b1⟩ := K E p l e R s m args below meth c A _ _ ls X ⟨hput.1, hput.2.1, ⟨hput.2.2.1.1, hput.2.2.1.2.1, fun q hq => by
      rcases List.mem_append.mp hq with h | h
      · exact Wd.2.2.1.2.2 q h
      · obtain ⟨w, -, hw⟩ := List.mem_map.mp h
        rw [← hw]
        exact hAa⟩, hput.2.2.2⟩ L _ hheap X'
  exact ⟨t, step t a1, b1⟩
end GR2
end
section
/-! by program: method infos, and what the tables say -/
theorem ws_in {ws : List Cond} (ps : List Nat) (hp : ws = ps.filterMap (fun i => lw_tbl[i]?)) (h : ws.all goodWord = true) : ∀ w ∈ ws, w ∈ TBL := by
  intro w hw
  have h1 := List.all_eq_true.mp h w hw
  rw [hp] at hw
  obtain ⟨i, -, hi⟩ := List.mem_filterMap.mp hw
  exact mem_TBL i hi h1
theorem cis_0 : CIs 0 RX0 TX0 2 tyX0 := ⟨rfl, ws_in [185, 187] (by decide +kernel) (by decide +kernel), tyX0_ok, nmX0, by decide +kernel⟩
theorem cis_1 : CIs 1 RX1 TX1 4 tyX1 := ⟨rfl, ws_in [249, 251, 253, 255] (by decide +kernel) (by decide +kernel), tyX1_ok, nmX1, by decide +kernel⟩
theorem cis_2 : CIs 2 RX2 TX2 4 tyX2 := ⟨rfl, ws_in [230, 232, 234, 236] (by decide +kernel) (by decide +kernel), tyX2_ok, nmX2, by decide +kernel⟩
theorem cis_3 : CIs 3 RX3 TX3 5 tyX3 := ⟨rfl, ws_in [128, 130, 132, 134, 136] (by decide +kernel) (by decide +kernel), tyX3_ok, nmX3, by decide +kernel⟩
theorem cis_4 : CIs 4 RX4 TX4 5 tyX4 := ⟨rfl, ws_in [79, 81, 83, 85, 87] (by decide +kernel) (by decide +kernel), tyX4_ok, nmX4, by decide +kernel⟩
theorem cis_5 : CIs 5 RX5 TX5 4 tyX5 := ⟨rfl, ws_in [207, 209, 211, 213] (by decide +kernel) (by decide +kernel), tyX5_ok, nmX5, by decide +kernel⟩
theorem cis_6 : CIs 6 RX6 TX6 2 tyX6 := ⟨rfl, ws_in [105, 107] (by decide +kernel) (by decide +kernel), tyX6_ok, nmX6, by decide +kernel⟩
theorem cis_7 : CIs 7 RX7 TX7 8 tyX7 := ⟨rfl, ws_in [157, 159, 161, 163, 165, 167, 169, 171] (by decide +kernel) (by decide +kernel), tyX7_ok, nmX7, by decide +kernel⟩
theorem cis_8 : CIs 8 RX8 TX8 9 tyX8 := ⟨rfl, ws_in [271, 273, 275, 277, 279, 281, 283, 285, 287] (by decide +kernel) (by decide +kernel), tyX8_ok, nmX8, by decide +kernel⟩
theorem cis_9 : CIs 9 RX9 TX9 22 tyX9 := ⟨rfl, ws_in [716, 718, 720, 722, 724, 726, 728, 730, 732, 734, 736, 738, 740, 742, 744, 746, 748, 750, 752, 754, 756, 758] (by decide +kernel) (by decide +kernel), tyX9_ok, nmX9, by decide +kernel⟩
abbrev I_L_cell : MI := (cL_cell, 2, (some .int), RL, 0, 0, false)
theorem lk_L_cell : LkS yL_cell I_L_cell 2 := ⟨⟨mem_TBL 686 (by decide +kernel) rfl, mem_TBL 40 (by decide +kernel) rfl, by decide +kernel, rfl⟩, mem_TBL 685 (by decide +kernel) rfl⟩
abbrev I_L_law : MI := (code, 4, (some .boolean), RL, 9, 332, false)
abbrev I_X0_holds : MI := (cX0_holds, 4, (some .boolean), RX0, 1, 23, false)
theorem lk_X0_holds : LkV yX0_holds I_X0_holds 3 := ⟨⟨mem_TBL 457 (by decide +kernel) rfl, mem_TBL 47 (by decide +kernel) rfl, by decide +kernel, rfl⟩, mem_TBL 455 (by decide +kernel) rfl, mem_TBL 456 (by decide +kernel) rfl⟩
abbrev I_X0_init : MI := (cX0_init, 1, none, RX0, 1, 20, true)
theorem lk_X0_init : LkI yX0_init I_X0_init 0 := ⟨⟨mem_TBL 181 (by decide +kernel) rfl, mem_TBL 47 (by decide +kernel) rfl, by decide +kernel, rfl⟩, mem_TBL 180 (by decide +kernel) rfl, rfl, rfl⟩
abbrev I_X0_leave : MI := (cX0_leave, 4, none, RX0, 1, 23, false)
theorem lk_X0_leave : LkV yX0_leave I_X0_leave 2 := ⟨⟨mem_TBL 470 (by decide +kernel) rfl, mem_TBL 47 (by decide +kernel) rfl, by decide +kernel, rfl⟩, mem_TBL 468 (by decide +kernel) rfl, mem_TBL 469 (by decide +kernel) rfl⟩
abbrev I_X0_remainingAt : MI := (cX0_remainingAt, 4, (some .int), RX0, 1, 21, false)
theorem lk_X0_remainingAt : LkV yX0_remainingAt I_X0_remainingAt 1 := ⟨⟨mem_TBL 629 (by decide +kernel) rfl, mem_TBL 47 (by decide +kernel) rfl, by decide +kernel, rfl⟩, mem_TBL 627 (by decide +kernel) rfl, mem_TBL 628 (by decide +kernel) rfl⟩
abbrev I_X0_remainingBelow : MI := (cX0_remainingBelow, 4, (some .int), RX0, 1, 21, false)
theorem lk_X0_remainingBelow : LkV yX0_remainingBelow I_X0_remainingBelow 1 := ⟨⟨mem_TBL 474 (by decide +kernel) rfl, mem_TBL 47 (by decide +kernel) rfl, by decide +kernel, rfl⟩, mem_TBL 472 (by decide +kernel) rfl, mem_TBL 473 (by decide +kernel) rfl⟩
abbrev I_X0_remains : MI := (cX0_remains, 2, (some .boolean), RX0, 0, 0, false)
theorem lk_X0_remains : LkV yX0_remains I_X0_remains 1 := ⟨⟨mem_TBL 448 (by decide +kernel) rfl, mem_TBL 47 (by decide +kernel) rfl, by decide +kernel, rfl⟩, mem_TBL 446 (by decide +kernel) rfl, mem_TBL 447 (by decide +kernel) rfl⟩
abbrev I_X0_restart : MI := (cX0_restart, 2, none, RX0, 0, 0, false)
theorem lk_X0_restart : LkV yX0_restart I_X0_restart 0 := ⟨⟨mem_TBL 435 (by decide +kernel) rfl, mem_TBL 47 (by decide +kernel) rfl, by decide +kernel, rfl⟩, mem_TBL 433 (by decide +kernel) rfl, mem_TBL 434 (by decide +kernel) rfl⟩
abbrev I_X0_sum : MI := (cX0_sum, 3, (some .int), RX0, 2, 48, false)
theorem lk_X0_sum : LkV yX0_sum I_X0_sum 2 := ⟨⟨mem_TBL 439 (by decide +kernel) rfl, mem_TBL 47 (by decide +kernel) rfl, by decide +kernel, rfl⟩, mem_TBL 437 (by decide +kernel) rfl, mem_TBL 438 (by decide +kernel) rfl⟩
abbrev I_X0_sumBelow : MI := (cX0_sumBelow, 6, (some .int), RX0, 1, 23, false)
theorem lk_X0_sumBelow : LkV yX0_sumBelow I_X0_sumBelow 3 := ⟨⟨mem_TBL 444 (by decide +kernel) rfl, mem_TBL 47 (by decide +kernel) rfl, by decide +kernel, rfl⟩, mem_TBL 442 (by decide +kernel) rfl, mem_TBL 443 (by decide +kernel) rfl⟩
abbrev I_X0_symbolAt : MI := (cX0_symbolAt, 6, (some .int), RX0, 1, 23, false)
theorem lk_X0_symbolAt : LkV yX0_symbolAt I_X0_symbolAt 3 := ⟨⟨mem_TBL 620 (by decide +kernel) rfl, mem_TBL 47 (by decide +kernel) rfl, by decide +kernel, rfl⟩, mem_TBL 618 (by decide +kernel) rfl, mem_TBL 619 (by decide +kernel) rfl⟩
abbrev I_X1_begin : MI := (cX1_begin, 3, none, RX1, 3, 63, false)
theorem lk_X1_begin : LkV yX1_begin I_X1_begin 1 := ⟨⟨mem_TBL 598 (by decide +kernel) rfl, mem_TBL 50 (by decide +kernel) rfl, by decide +kernel, rfl⟩, mem_TBL 596 (by decide +kernel) rfl, mem_TBL 597 (by decide +kernel) rfl⟩
abbrev I_X1_init : MI := (cX1_init, 1, none, RX1, 1, 20, true)
theorem lk_X1_init : LkI yX1_init I_X1_init 0 := ⟨⟨mem_TBL 243 (by decide +kernel) rfl, mem_TBL 50 (by decide +kernel) rfl, by decide +kernel, rfl⟩, mem_TBL 242 (by decide +kernel) rfl, rfl, rfl⟩
abbrev I_X1_interval : MI := (cX1_interval, 7, none, RX1, 3, 63, false)
theorem lk_X1_interval : LkV yX1_interval I_X1_interval 3 := ⟨⟨mem_TBL 624 (by decide +kernel) rfl, mem_TBL 50 (by decide +kernel) rfl, by decide +kernel, rfl⟩, mem_TBL 622 (by decide +kernel) rfl, mem_TBL 623 (by decide +kernel) rfl⟩
abbrev I_X1_number : MI := (cX1_number, 4, (some .int), RX1, 1, 23, false)
theorem lk_X1_number : LkV yX1_number I_X1_number 1 := ⟨⟨mem_TBL 613 (by decide +kernel) rfl, mem_TBL 50 (by decide +kernel) rfl, by decide +kernel, rfl⟩, mem_TBL 611 (by decide +kernel) rfl, mem_TBL 612 (by decide +kernel) rfl⟩
abbrev I_X1_shift : MI := (cX1_shift, 2, none, RX1, 2, 42, false)
theorem lk_X1_shift : LkV yX1_shift I_X1_shift 0 := ⟨⟨mem_TBL 602 (by decide +kernel) rfl, mem_TBL 50 (by decide +kernel) rfl, by decide +kernel, rfl⟩, mem_TBL 601 (by decide +kernel) rfl, mem_TBL 11 (by decide +kernel) rfl⟩
abbrev I_X2_begin : MI := (cX2_begin, 1, none, RX2, 1, 20, false)
theorem lk_X2_begin : LkV yX2_begin I_X2_begin 0 := ⟨⟨mem_TBL 524 (by decide +kernel) rfl, mem_TBL 49 (by decide +kernel) rfl, by decide +kernel, rfl⟩, mem_TBL 522 (by decide +kernel) rfl, mem_TBL 523 (by decide +kernel) rfl⟩
abbrev I_X2_carry : MI := (cX2_carry, 4, none, RX2, 2, 43, false)
theorem lk_X2_carry : LkV yX2_carry I_X2_carry 0 := ⟨⟨mem_TBL 542 (by decide +kernel) rfl, mem_TBL 49 (by decide +kernel) rfl, by decide +kernel, rfl⟩, mem_TBL 541 (by decide +kernel) rfl, mem_TBL 8 (by decide +kernel) rfl⟩
abbrev I_X2_finish : MI := (cX2_finish, 5, none, RX2, 3, 66, false)
theorem lk_X2_finish : LkV yX2_finish I_X2_finish 0 := ⟨⟨mem_TBL 564 (by decide +kernel) rfl, mem_TBL 49 (by decide +kernel) rfl, by decide +kernel, rfl⟩, mem_TBL 562 (by decide +kernel) rfl, mem_TBL 563 (by decide +kernel) rfl⟩
abbrev I_X2_init : MI := (cX2_init, 1, none, RX2, 2, 44, true)
theorem lk_X2_init : LkI yX2_init I_X2_init 0 := ⟨⟨mem_TBL 220 (by decide +kernel) rfl, mem_TBL 49 (by decide +kernel) rfl, by decide +kernel, rfl⟩, mem_TBL 219 (by decide +kernel) rfl, rfl, rfl⟩
abbrev I_X2_interval : MI := (cX2_interval, 7, none, RX2, 3, 66, false)
theorem lk_X2_interval : LkV yX2_interval I_X2_interval 3 := ⟨⟨mem_TBL 538 (by decide +kernel) rfl, mem_TBL 49 (by decide +kernel) rfl, by decide +kernel, rfl⟩, mem_TBL 536 (by decide +kernel) rfl, mem_TBL 537 (by decide +kernel) rfl⟩
abbrev I_X2_leastMultiple : MI := (cX2_leastMultiple, 4, (some .long), RX2, 0, 0, false)
theorem lk_X2_leastMultiple : LkV yX2_leastMultiple I_X2_leastMultiple 1 := ⟨⟨mem_TBL 568 (by decide +kernel) rfl, mem_TBL 49 (by decide +kernel) rfl, by decide +kernel, rfl⟩, mem_TBL 567 (by decide +kernel) rfl, mem_TBL 9 (by decide +kernel) rfl⟩
abbrev I_X3_add : MI := (cX3_add, 5, none, RX3, 1, 21, false)
theorem lk_X3_add : LkV yX3_add I_X3_add 4 := ⟨⟨mem_TBL 555 (by decide +kernel) rfl, mem_TBL 46 (by decide +kernel) rfl, by decide +kernel, rfl⟩, mem_TBL 553 (by decide +kernel) rfl, mem_TBL 554 (by decide +kernel) rfl⟩
abbrev I_X3_clear : MI := (cX3_clear, 1, none, RX3, 1, 20, false)
theorem lk_X3_clear : LkV yX3_clear I_X3_clear 0 := ⟨⟨mem_TBL 519 (by decide +kernel) rfl, mem_TBL 46 (by decide +kernel) rfl, by decide +kernel, rfl⟩, mem_TBL 517 (by decide +kernel) rfl, mem_TBL 518 (by decide +kernel) rfl⟩
abbrev I_X3_init : MI := (cX3_init, 1, none, RX3, 2, 44, true)
theorem lk_X3_init : LkI yX3_init I_X3_init 0 := ⟨⟨mem_TBL 114 (by decide +kernel) rfl, mem_TBL 46 (by decide +kernel) rfl, by decide +kernel, rfl⟩, mem_TBL 113 (by decide +kernel) rfl, rfl, rfl⟩
abbrev I_X3_take : MI := (cX3_take, 2, none, RX3, 2, 48, false)
theorem lk_X3_take : LkV yX3_take I_X3_take 1 := ⟨⟨mem_TBL 328 (by decide +kernel) rfl, mem_TBL 46 (by decide +kernel) rfl, by decide +kernel, rfl⟩, mem_TBL 326 (by decide +kernel) rfl, mem_TBL 327 (by decide +kernel) rfl⟩
abbrev I_X4_clear : MI := (cX4_clear, 1, none, RX4, 0, 0, false)
theorem lk_X4_clear : LkV yX4_clear I_X4_clear 0 := ⟨⟨mem_TBL 333 (by decide +kernel) rfl, mem_TBL 43 (by decide +kernel) rfl, by decide +kernel, rfl⟩, mem_TBL 331 (by decide +kernel) rfl, mem_TBL 332 (by decide +kernel) rfl⟩
abbrev I_X4_countIn : MI := (cX4_countIn, 4, (some .int), RX4, 0, 0, false)
theorem lk_X4_countIn : LkV yX4_countIn I_X4_countIn 2 := ⟨⟨mem_TBL 407 (by decide +kernel) rfl, mem_TBL 43 (by decide +kernel) rfl, by decide +kernel, rfl⟩, mem_TBL 405 (by decide +kernel) rfl, mem_TBL 406 (by decide +kernel) rfl⟩
abbrev I_X4_find : MI := (cX4_find, 3, (some .int), RX4, 0, 0, false)
theorem lk_X4_find : LkV yX4_find I_X4_find 1 := ⟨⟨mem_TBL 380 (by decide +kernel) rfl, mem_TBL 43 (by decide +kernel) rfl, by decide +kernel, rfl⟩, mem_TBL 378 (by decide +kernel) rfl, mem_TBL 379 (by decide +kernel) rfl⟩
abbrev I_X4_halve : MI := (cX4_halve, 4, none, RX4, 0, 0, false)
theorem lk_X4_halve : LkV yX4_halve I_X4_halve 1 := ⟨⟨mem_TBL 392 (by decide +kernel) rfl, mem_TBL 43 (by decide +kernel) rfl, by decide +kernel, rfl⟩, mem_TBL 391 (by decide +kernel) rfl, mem_TBL 3 (by decide +kernel) rfl⟩
abbrev I_X4_has : MI := (cX4_has, 2, (some .boolean), RX4, 0, 0, false)
theorem lk_X4_has : LkV yX4_has I_X4_has 1 := ⟨⟨mem_TBL 388 (by decide +kernel) rfl, mem_TBL 43 (by decide +kernel) rfl, by decide +kernel, rfl⟩, mem_TBL 387 (by decide +kernel) rfl, mem_TBL 2 (by decide +kernel) rfl⟩
abbrev I_X4_init : MI := (cX4_init, 1, none, RX4, 1, 20, true)
theorem lk_X4_init : LkI yX4_init I_X4_init 0 := ⟨⟨mem_TBL 71 (by decide +kernel) rfl, mem_TBL 43 (by decide +kernel) rfl, by decide +kernel, rfl⟩, mem_TBL 70 (by decide +kernel) rfl, rfl, rfl⟩
abbrev I_X4_knownIn : MI := (cX4_knownIn, 2, (some .int), RX4, 1, 21, false)
theorem lk_X4_knownIn : LkV yX4_knownIn I_X4_knownIn 1 := ⟨⟨mem_TBL 453 (by decide +kernel) rfl, mem_TBL 43 (by decide +kernel) rfl, by decide +kernel, rfl⟩, mem_TBL 451 (by decide +kernel) rfl, mem_TBL 452 (by decide +kernel) rfl⟩
abbrev I_X4_meet : MI := (cX4_meet, 4, (some .int), RX4, 1, 22, false)
theorem lk_X4_meet : LkV yX4_meet I_X4_meet 1 := ⟨⟨mem_TBL 376 (by decide +kernel) rfl, mem_TBL 43 (by decide +kernel) rfl, by decide +kernel, rfl⟩, mem_TBL 374 (by decide +kernel) rfl, mem_TBL 375 (by decide +kernel) rfl⟩
abbrev I_X4_raise : MI := (cX4_raise, 6, none, RX4, 1, 23, false)
theorem lk_X4_raise : LkV yX4_raise I_X4_raise 4 := ⟨⟨mem_TBL 384 (by decide +kernel) rfl, mem_TBL 43 (by decide +kernel) rfl, by decide +kernel, rfl⟩, mem_TBL 382 (by decide +kernel) rfl, mem_TBL 383 (by decide +kernel) rfl⟩
abbrev I_X4_take : MI := (cX4_take, 2, none, RX4, 1, 26, false)
theorem lk_X4_take : LkV yX4_take I_X4_take 1 := ⟨⟨mem_TBL 313 (by decide +kernel) rfl, mem_TBL 43 (by decide +kernel) rfl, by decide +kernel, rfl⟩, mem_TBL 311 (by decide +kernel) rfl, mem_TBL 312 (by decide +kernel) rfl⟩
abbrev I_X4_weightOf : MI := (cX4_weightOf, 2, (some .int), RX4, 1, 21, false)
theorem lk_X4_weightOf : LkV yX4_weightOf I_X4_weightOf 1 := ⟨⟨mem_TBL 415 (by decide +kernel) rfl, mem_TBL 43 (by decide +kernel) rfl, by decide +kernel, rfl⟩, mem_TBL 413 (by decide +kernel) rfl, mem_TBL 414 (by decide +kernel) rfl⟩
abbrev I_X5_add : MI := (cX5_add, 4, none, RX5, 1, 21, false)
theorem lk_X5_add : LkV yX5_add I_X5_add 3 := ⟨⟨mem_TBL 462 (by decide +kernel) rfl, mem_TBL 48 (by decide +kernel) rfl, by decide +kernel, rfl⟩, mem_TBL 460 (by decide +kernel) rfl, mem_TBL 461 (by decide +kernel) rfl⟩
abbrev I_X5_clear : MI := (cX5_clear, 1, none, RX5, 1, 20, false)
theorem lk_X5_clear : LkV yX5_clear I_X5_clear 0 := ⟨⟨mem_TBL 427 (by decide +kernel) rfl, mem_TBL 48 (by decide +kernel) rfl, by decide +kernel, rfl⟩, mem_TBL 425 (by decide +kernel) rfl, mem_TBL 426 (by decide +kernel) rfl⟩
abbrev I_X5_init : MI := (cX5_init, 1, none, RX5, 2, 44, true)
theorem lk_X5_init : LkI yX5_init I_X5_init 0 := ⟨⟨mem_TBL 195 (by decide +kernel) rfl, mem_TBL 48 (by decide +kernel) rfl, by decide +kernel, rfl⟩, mem_TBL 194 (by decide +kernel) rfl, rfl, rfl⟩
abbrev I_X5_size : MI := (cX5_size, 1, (some .int), RX5, 0, 0, false)
theorem lk_X5_size : LkV yX5_size I_X5_size 0 := ⟨⟨mem_TBL 534 (by decide +kernel) rfl, mem_TBL 48 (by decide +kernel) rfl, by decide +kernel, rfl⟩, mem_TBL 532 (by decide +kernel) rfl, mem_TBL 533 (by decide +kernel) rfl⟩
abbrev I_X5_sumOfCosts : MI := (cX5_sumOfCosts, 3, (some .int), RX5, 2, 46, false)
theorem lk_X5_sumOfCosts : LkV yX5_sumOfCosts I_X5_sumOfCosts 0 := ⟨⟨mem_TBL 478 (by decide +kernel) rfl, mem_TBL 48 (by decide +kernel) rfl, by decide +kernel, rfl⟩, mem_TBL 476 (by decide +kernel) rfl, mem_TBL 477 (by decide +kernel) rfl⟩
abbrev I_X6_clear : MI := (cX6_clear, 1, none, RX6, 0, 0, false)
theorem lk_X6_clear : LkV yX6_clear I_X6_clear 0 := ⟨⟨mem_TBL 431 (by decide +kernel) rfl, mem_TBL 44 (by decide +kernel) rfl, by decide +kernel, rfl⟩, mem_TBL 429 (by decide +kernel) rfl, mem_TBL 430 (by decide +kernel) rfl⟩
abbrev I_X6_drop : MI := (cX6_drop, 2, none, RX6, 1, 23, false)
theorem lk_X6_drop : LkV yX6_drop I_X6_drop 1 := ⟨⟨mem_TBL 505 (by decide +kernel) rfl, mem_TBL 44 (by decide +kernel) rfl, by decide +kernel, rfl⟩, mem_TBL 503 (by decide +kernel) rfl, mem_TBL 504 (by decide +kernel) rfl⟩
abbrev I_X6_has : MI := (cX6_has, 2, (some .boolean), RX6, 0, 0, false)
theorem lk_X6_has : LkV yX6_has I_X6_has 1 := ⟨⟨mem_TBL 365 (by decide +kernel) rfl, mem_TBL 44 (by decide +kernel) rfl, by decide +kernel, rfl⟩, mem_TBL 363 (by decide +kernel) rfl, mem_TBL 364 (by decide +kernel) rfl⟩
abbrev I_X6_init : MI := (cX6_init, 2, none, RX6, 1, 23, true)
theorem lk_X6_init : LkI yX6_init I_X6_init 1 := ⟨⟨mem_TBL 95 (by decide +kernel) rfl, mem_TBL 44 (by decide +kernel) rfl, by decide +kernel, rfl⟩, mem_TBL 94 (by decide +kernel) rfl, rfl, rfl⟩
abbrev I_X6_item : MI := (cX6_item, 2, (some .int), RX6, 1, 21, false)
theorem lk_X6_item : LkV yX6_item I_X6_item 1 := ⟨⟨mem_TBL 361 (by decide +kernel) rfl, mem_TBL 44 (by decide +kernel) rfl, by decide +kernel, rfl⟩, mem_TBL 359 (by decide +kernel) rfl, mem_TBL 360 (by decide +kernel) rfl⟩
abbrev I_X6_push : MI := (cX6_push, 2, none, RX6, 0, 0, false)
theorem lk_X6_push : LkV yX6_push I_X6_push 1 := ⟨⟨mem_TBL 466 (by decide +kernel) rfl, mem_TBL 44 (by decide +kernel) rfl, by decide +kernel, rfl⟩, mem_TBL 464 (by decide +kernel) rfl, mem_TBL 465 (by decide +kernel) rfl⟩
abbrev I_X6_put : MI := (cX6_put, 3, none, RX6, 1, 21, false)
theorem lk_X6_put : LkV yX6_put I_X6_put 2 := ⟨⟨mem_TBL 547 (by decide +kernel) rfl, mem_TBL 44 (by decide +kernel) rfl, by decide +kernel, rfl⟩, mem_TBL 545 (by decide +kernel) rfl, mem_TBL 546 (by decide +kernel) rfl⟩
abbrev I_X6_same : MI := (cX6_same, 3, (some .boolean), RX6, 2, 42, false)
theorem lk_X6_same : LkV yX6_same I_X6_same 1 := ⟨⟨mem_TBL 633 (by decide +kernel) rfl, mem_TBL 44 (by decide +kernel) rfl, by decide +kernel, rfl⟩, mem_TBL 631 (by decide +kernel) rfl, mem_TBL 632 (by decide +kernel) rfl⟩
abbrev I_X6_take : MI := (cX6_take, 3, none, RX6, 1, 26, false)
theorem lk_X6_take : LkV yX6_take I_X6_take 1 := ⟨⟨mem_TBL 322 (by decide +kernel) rfl, mem_TBL 44 (by decide +kernel) rfl, by decide +kernel, rfl⟩, mem_TBL 320 (by decide +kernel) rfl, mem_TBL 321 (by decide +kernel) rfl⟩
abbrev I_X7_increase : MI := (cX7_increase, 6, none, RX7, 3, 66, false)
theorem lk_X7_increase : LkV yX7_increase I_X7_increase 3 := ⟨⟨mem_TBL 369 (by decide +kernel) rfl, mem_TBL 42 (by decide +kernel) rfl, by decide +kernel, rfl⟩, mem_TBL 367 (by decide +kernel) rfl, mem_TBL 368 (by decide +kernel) rfl⟩
abbrev I_X7_init : MI := (cX7_init, 1, none, RX7, 3, 64, true)
theorem lk_X7_init : LkI yX7_init I_X7_init 0 := ⟨⟨mem_TBL 65 (by decide +kernel) rfl, mem_TBL 42 (by decide +kernel) rfl, by decide +kernel, rfl⟩, mem_TBL 64 (by decide +kernel) rfl, rfl, rfl⟩
abbrev I_X7_take : MI := (cX7_take, 2, none, RX7, 3, 69, false)
theorem lk_X7_take : LkV yX7_take I_X7_take 1 := ⟨⟨mem_TBL 305 (by decide +kernel) rfl, mem_TBL 42 (by decide +kernel) rfl, by decide +kernel, rfl⟩, mem_TBL 303 (by decide +kernel) rfl, mem_TBL 304 (by decide +kernel) rfl⟩
abbrev I_X7_takeSettings : MI := (cX7_takeSettings, 2, none, RX7, 0, 0, false)
theorem lk_X7_takeSettings : LkV yX7_takeSettings I_X7_takeSettings 1 := ⟨⟨mem_TBL 309 (by decide +kernel) rfl, mem_TBL 42 (by decide +kernel) rfl, by decide +kernel, rfl⟩, mem_TBL 307 (by decide +kernel) rfl, mem_TBL 308 (by decide +kernel) rfl⟩
abbrev I_X8_account : MI := (cX8_account, 3, (some .int), RX8, 2, 42, false)
theorem lk_X8_account : LkV yX8_account I_X8_account 2 := ⟨⟨mem_TBL 659 (by decide +kernel) rfl, mem_TBL 41 (by decide +kernel) rfl, by decide +kernel, rfl⟩, mem_TBL 657 (by decide +kernel) rfl, mem_TBL 658 (by decide +kernel) rfl⟩
abbrev I_X8_append : MI := (cX8_append, 2, (some .int), RX8, 5, 111, false)
theorem lk_X8_append : LkV yX8_append I_X8_append 1 := ⟨⟨mem_TBL 651 (by decide +kernel) rfl, mem_TBL 41 (by decide +kernel) rfl, by decide +kernel, rfl⟩, mem_TBL 649 (by decide +kernel) rfl, mem_TBL 650 (by decide +kernel) rfl⟩
abbrev I_X8_bytes : MI := (cX8_bytes, 1, (some .int), RX8, 0, 0, false)
theorem lk_X8_bytes : LkV yX8_bytes I_X8_bytes 0 := ⟨⟨mem_TBL 576 (by decide +kernel) rfl, mem_TBL 41 (by decide +kernel) rfl, by decide +kernel, rfl⟩, mem_TBL 574 (by decide +kernel) rfl, mem_TBL 575 (by decide +kernel) rfl⟩
abbrev I_X8_checkNumber : MI := (cX8_checkNumber, 3, (some .int), RX8, 2, 42, false)
theorem lk_X8_checkNumber : LkS yX8_checkNumber I_X8_checkNumber 1 := ⟨⟨mem_TBL 559 (by decide +kernel) rfl, mem_TBL 41 (by decide +kernel) rfl, by decide +kernel, rfl⟩, mem_TBL 558 (by decide +kernel) rfl⟩
abbrev I_X8_codeByte : MI := (cX8_codeByte, 2, (some .int), RX8, 2, 42, false)
theorem lk_X8_codeByte : LkV yX8_codeByte I_X8_codeByte 1 := ⟨⟨mem_TBL 580 (by decide +kernel) rfl, mem_TBL 41 (by decide +kernel) rfl, by decide +kernel, rfl⟩, mem_TBL 578 (by decide +kernel) rfl, mem_TBL 579 (by decide +kernel) rfl⟩
abbrev I_X8_codeOnTrial : MI := (cX8_codeOnTrial, 3, none, RX8, 5, 123, false)
theorem lk_X8_codeOnTrial : LkV yX8_codeOnTrial I_X8_codeOnTrial 1 := ⟨⟨mem_TBL 513 (by decide +kernel) rfl, mem_TBL 41 (by decide +kernel) rfl, by decide +kernel, rfl⟩, mem_TBL 512 (by decide +kernel) rfl, mem_TBL 6 (by decide +kernel) rfl⟩
abbrev I_X8_codeSymbol : MI := (cX8_codeSymbol, 5, none, RX8, 4, 99, false)
theorem lk_X8_codeSymbol : LkV yX8_codeSymbol I_X8_codeSymbol 3 := ⟨⟨mem_TBL 530 (by decide +kernel) rfl, mem_TBL 41 (by decide +kernel) rfl, by decide +kernel, rfl⟩, mem_TBL 529 (by decide +kernel) rfl, mem_TBL 7 (by decide +kernel) rfl⟩
abbrev I_X8_coded : MI := (cX8_coded, 1, (some .int), RX8, 0, 0, false)
theorem lk_X8_coded : LkV yX8_coded I_X8_coded 0 := ⟨⟨mem_TBL 655 (by decide +kernel) rfl, mem_TBL 41 (by decide +kernel) rfl, by decide +kernel, rfl⟩, mem_TBL 653 (by decide +kernel) rfl, mem_TBL 654 (by decide +kernel) rfl⟩
abbrev I_X8_contextKey : MI := (cX8_contextKey, 5, (some .int), RX8, 2, 42, false)
theorem lk_X8_contextKey : LkS yX8_contextKey I_X8_contextKey 3 := ⟨⟨mem_TBL 372 (by decide +kernel) rfl, mem_TBL 41 (by decide +kernel) rfl, by decide +kernel, rfl⟩, mem_TBL 371 (by decide +kernel) rfl⟩
abbrev I_X8_contexts : MI := (cX8_contexts, 1, (some .int), RX8, 0, 0, false)
theorem lk_X8_contexts : LkV yX8_contexts I_X8_contexts 0 := ⟨⟨mem_TBL 353 (by decide +kernel) rfl, mem_TBL 41 (by decide +kernel) rfl, by decide +kernel, rfl⟩, mem_TBL 351 (by decide +kernel) rfl, mem_TBL 352 (by decide +kernel) rfl⟩
abbrev I_X8_cost : MI := (cX8_cost, 3, (some .int), RX8, 2, 42, false)
theorem lk_X8_cost : LkV yX8_cost I_X8_cost 0 := ⟨⟨mem_TBL 663 (by decide +kernel) rfl, mem_TBL 41 (by decide +kernel) rfl, by decide +kernel, rfl⟩, mem_TBL 661 (by decide +kernel) rfl, mem_TBL 662 (by decide +kernel) rfl⟩
abbrev I_X8_count : MI := (cX8_count, 4, (some .int), RX8, 4, 87, false)
theorem lk_X8_count : LkV yX8_count I_X8_count 2 := ⟨⟨mem_TBL 397 (by decide +kernel) rfl, mem_TBL 41 (by decide +kernel) rfl, by decide +kernel, rfl⟩, mem_TBL 395 (by decide +kernel) rfl, mem_TBL 396 (by decide +kernel) rfl⟩
abbrev I_X8_cut : MI := (cX8_cut, 2, (some .int), RX8, 5, 111, false)
theorem lk_X8_cut : LkV yX8_cut I_X8_cut 1 := ⟨⟨mem_TBL 647 (by decide +kernel) rfl, mem_TBL 41 (by decide +kernel) rfl, by decide +kernel, rfl⟩, mem_TBL 645 (by decide +kernel) rfl, mem_TBL 646 (by decide +kernel) rfl⟩
abbrev I_X8_decode : MI := (cX8_decode, 2, (some .int), RX8, 6, 145, false)
theorem lk_X8_decode : LkV yX8_decode I_X8_decode 0 := ⟨⟨mem_TBL 589 (by decide +kernel) rfl, mem_TBL 41 (by decide +kernel) rfl, by decide +kernel, rfl⟩, mem_TBL 587 (by decide +kernel) rfl, mem_TBL 588 (by decide +kernel) rfl⟩
abbrev I_X8_decoded : MI := (cX8_decoded, 2, (some .int), RX8, 2, 42, false)
theorem lk_X8_decoded : LkV yX8_decoded I_X8_decoded 1 := ⟨⟨mem_TBL 638 (by decide +kernel) rfl, mem_TBL 41 (by decide +kernel) rfl, by decide +kernel, rfl⟩, mem_TBL 636 (by decide +kernel) rfl, mem_TBL 637 (by decide +kernel) rfl⟩
abbrev I_X8_encode : MI := (cX8_encode, 1, (some .int), RX8, 6, 145, false)
theorem lk_X8_encode : LkV yX8_encode I_X8_encode 0 := ⟨⟨mem_TBL 509 (by decide +kernel) rfl, mem_TBL 41 (by decide +kernel) rfl, by decide +kernel, rfl⟩, mem_TBL 507 (by decide +kernel) rfl, mem_TBL 508 (by decide +kernel) rfl⟩
abbrev I_X8_fingerprint : MI := (cX8_fingerprint, 4, (some .long), RX8, 3, 64, false)
theorem lk_X8_fingerprint : LkV yX8_fingerprint I_X8_fingerprint 0 := ⟨⟨mem_TBL 677 (by decide +kernel) rfl, mem_TBL 41 (by decide +kernel) rfl, by decide +kernel, rfl⟩, mem_TBL 675 (by decide +kernel) rfl, mem_TBL 676 (by decide +kernel) rfl⟩
abbrev I_X8_flip : MI := (cX8_flip, 3, (some .int), RX8, 5, 111, false)
theorem lk_X8_flip : LkV yX8_flip I_X8_flip 2 := ⟨⟨mem_TBL 642 (by decide +kernel) rfl, mem_TBL 41 (by decide +kernel) rfl, by decide +kernel, rfl⟩, mem_TBL 640 (by decide +kernel) rfl, mem_TBL 641 (by decide +kernel) rfl⟩
abbrev I_X8_forget : MI := (cX8_forget, 2, (some .int), RX8, 5, 111, false)
theorem lk_X8_forget : LkV yX8_forget I_X8_forget 0 := ⟨⟨mem_TBL 349 (by decide +kernel) rfl, mem_TBL 41 (by decide +kernel) rfl, by decide +kernel, rfl⟩, mem_TBL 347 (by decide +kernel) rfl, mem_TBL 348 (by decide +kernel) rfl⟩
abbrev I_X8_guess : MI := (cX8_guess, 5, (some .int), RX8, 5, 120, false)
theorem lk_X8_guess : LkV yX8_guess I_X8_guess 0 := ⟨⟨mem_TBL 491 (by decide +kernel) rfl, mem_TBL 41 (by decide +kernel) rfl, by decide +kernel, rfl⟩, mem_TBL 489 (by decide +kernel) rfl, mem_TBL 490 (by decide +kernel) rfl⟩
abbrev I_X8_init : MI := (cX8_init, 3, none, RX8, 4, 84, true)
theorem lk_X8_init : LkI yX8_init I_X8_init 1 := ⟨⟨mem_TBL 57 (by decide +kernel) rfl, mem_TBL 41 (by decide +kernel) rfl, by decide +kernel, rfl⟩, mem_TBL 56 (by decide +kernel) rfl, rfl, rfl⟩
abbrev I_X8_intervalCost : MI := (cX8_intervalCost, 2, (some .int), RX8, 1, 25, false)
theorem lk_X8_intervalCost : LkS yX8_intervalCost I_X8_intervalCost 2 := ⟨⟨mem_TBL 482 (by decide +kernel) rfl, mem_TBL 41 (by decide +kernel) rfl, by decide +kernel, rfl⟩, mem_TBL 481 (by decide +kernel) rfl⟩
abbrev I_X8_lastContext : MI := (cX8_lastContext, 2, (some .int), RX8, 3, 66, false)
theorem lk_X8_lastContext : LkV yX8_lastContext I_X8_lastContext 1 := ⟨⟨mem_TBL 401 (by decide +kernel) rfl, mem_TBL 41 (by decide +kernel) rfl, by decide +kernel, rfl⟩, mem_TBL 400 (by decide +kernel) rfl, mem_TBL 4 (by decide +kernel) rfl⟩
abbrev I_X8_learn : MI := (cX8_learn, 2, (some .int), RX8, 5, 111, false)
theorem lk_X8_learn : LkV yX8_learn I_X8_learn 0 := ⟨⟨mem_TBL 357 (by decide +kernel) rfl, mem_TBL 41 (by decide +kernel) rfl, by decide +kernel, rfl⟩, mem_TBL 355 (by decide +kernel) rfl, mem_TBL 356 (by decide +kernel) rfl⟩
abbrev I_X8_lg : MI := (cX8_lg, 3, (some .int), RX8, 2, 46, false)
theorem lk_X8_lg : LkV yX8_lg I_X8_lg 2 := ⟨⟨mem_TBL 667 (by decide +kernel) rfl, mem_TBL 41 (by decide +kernel) rfl, by decide +kernel, rfl⟩, mem_TBL 665 (by decide +kernel) rfl, mem_TBL 666 (by decide +kernel) rfl⟩
abbrev I_X8_logarithm : MI := (cX8_logarithm, 6, (some .int), RX8, 0, 0, false)
theorem lk_X8_logarithm : LkS yX8_logarithm I_X8_logarithm 1 := ⟨⟨mem_TBL 485 (by decide +kernel) rfl, mem_TBL 41 (by decide +kernel) rfl, by decide +kernel, rfl⟩, mem_TBL 484 (by decide +kernel) rfl⟩
abbrev I_X8_longestCarry : MI := (cX8_longestCarry, 1, (some .int), RX8, 0, 0, false)
theorem lk_X8_longestCarry : LkV yX8_longestCarry I_X8_longestCarry 0 := ⟨⟨mem_TBL 585 (by decide +kernel) rfl, mem_TBL 41 (by decide +kernel) rfl, by decide +kernel, rfl⟩, mem_TBL 583 (by decide +kernel) rfl, mem_TBL 584 (by decide +kernel) rfl⟩
abbrev I_X8_plan : MI := (cX8_plan, 10, none, RX8, 3, 70, false)
theorem lk_X8_plan : LkV yX8_plan I_X8_plan 4 := ⟨⟨mem_TBL 423 (by decide +kernel) rfl, mem_TBL 41 (by decide +kernel) rfl, by decide +kernel, rfl⟩, mem_TBL 422 (by decide +kernel) rfl, mem_TBL 5 (by decide +kernel) rfl⟩
abbrev I_X8_price : MI := (cX8_price, 2, (some .int), RX8, 4, 99, false)
theorem lk_X8_price : LkV yX8_price I_X8_price 1 := ⟨⟨mem_TBL 419 (by decide +kernel) rfl, mem_TBL 41 (by decide +kernel) rfl, by decide +kernel, rfl⟩, mem_TBL 417 (by decide +kernel) rfl, mem_TBL 418 (by decide +kernel) rfl⟩
abbrev I_X8_readOnTrial : MI := (cX8_readOnTrial, 3, (some .int), RX8, 5, 119, false)
theorem lk_X8_readOnTrial : LkV yX8_readOnTrial I_X8_readOnTrial 0 := ⟨⟨mem_TBL 593 (by decide +kernel) rfl, mem_TBL 41 (by decide +kernel) rfl, by decide +kernel, rfl⟩, mem_TBL 592 (by decide +kernel) rfl, mem_TBL 10 (by decide +kernel) rfl⟩
abbrev I_X8_readSymbol : MI := (cX8_readSymbol, 11, (some .int), RX8, 4, 89, false)
theorem lk_X8_readSymbol : LkV yX8_readSymbol I_X8_readSymbol 2 := ⟨⟨mem_TBL 609 (by decide +kernel) rfl, mem_TBL 41 (by decide +kernel) rfl, by decide +kernel, rfl⟩, mem_TBL 608 (by decide +kernel) rfl, mem_TBL 12 (by decide +kernel) rfl⟩
abbrev I_X8_remember : MI := (cX8_remember, 2, none, RX8, 4, 90, false)
theorem lk_X8_remember : LkV yX8_remember I_X8_remember 0 := ⟨⟨mem_TBL 297 (by decide +kernel) rfl, mem_TBL 41 (by decide +kernel) rfl, by decide +kernel, rfl⟩, mem_TBL 296 (by decide +kernel) rfl, mem_TBL 0 (by decide +kernel) rfl⟩
abbrev I_X8_remove : MI := (cX8_remove, 2, (some .int), RX8, 2, 44, false)
theorem lk_X8_remove : LkV yX8_remove I_X8_remove 1 := ⟨⟨mem_TBL 501 (by decide +kernel) rfl, mem_TBL 41 (by decide +kernel) rfl, by decide +kernel, rfl⟩, mem_TBL 499 (by decide +kernel) rfl, mem_TBL 500 (by decide +kernel) rfl⟩
abbrev I_X8_rollPast : MI := (cX8_rollPast, 3, none, RX8, 0, 0, false)
theorem lk_X8_rollPast : LkV yX8_rollPast I_X8_rollPast 0 := ⟨⟨mem_TBL 301 (by decide +kernel) rfl, mem_TBL 41 (by decide +kernel) rfl, by decide +kernel, rfl⟩, mem_TBL 300 (by decide +kernel) rfl, mem_TBL 1 (by decide +kernel) rfl⟩
abbrev I_X8_setExclusion : MI := (cX8_setExclusion, 3, (some .int), RX8, 5, 111, false)
theorem lk_X8_setExclusion : LkV yX8_setExclusion I_X8_setExclusion 1 := ⟨⟨mem_TBL 337 (by decide +kernel) rfl, mem_TBL 41 (by decide +kernel) rfl, by decide +kernel, rfl⟩, mem_TBL 335 (by decide +kernel) rfl, mem_TBL 336 (by decide +kernel) rfl⟩
abbrev I_X8_setLimit : MI := (cX8_setLimit, 3, (some .int), RX8, 5, 111, false)
theorem lk_X8_setLimit : LkV yX8_setLimit I_X8_setLimit 1 := ⟨⟨mem_TBL 345 (by decide +kernel) rfl, mem_TBL 41 (by decide +kernel) rfl, by decide +kernel, rfl⟩, mem_TBL 343 (by decide +kernel) rfl, mem_TBL 344 (by decide +kernel) rfl⟩
abbrev I_X8_setOrder : MI := (cX8_setOrder, 3, (some .int), RX8, 5, 111, false)
theorem lk_X8_setOrder : LkV yX8_setOrder I_X8_setOrder 1 := ⟨⟨mem_TBL 293 (by decide +kernel) rfl, mem_TBL 41 (by decide +kernel) rfl, by decide +kernel, rfl⟩, mem_TBL 291 (by decide +kernel) rfl, mem_TBL 292 (by decide +kernel) rfl⟩
abbrev I_X8_setStep : MI := (cX8_setStep, 3, (some .int), RX8, 5, 111, false)
theorem lk_X8_setStep : LkV yX8_setStep I_X8_setStep 1 := ⟨⟨mem_TBL 341 (by decide +kernel) rfl, mem_TBL 41 (by decide +kernel) rfl, by decide +kernel, rfl⟩, mem_TBL 339 (by decide +kernel) rfl, mem_TBL 340 (by decide +kernel) rfl⟩
abbrev I_X8_type : MI := (cX8_type, 2, (some .int), RX8, 1, 21, false)
theorem lk_X8_type : LkV yX8_type I_X8_type 1 := ⟨⟨mem_TBL 496 (by decide +kernel) rfl, mem_TBL 41 (by decide +kernel) rfl, by decide +kernel, rfl⟩, mem_TBL 494 (by decide +kernel) rfl, mem_TBL 495 (by decide +kernel) rfl⟩
abbrev I_X8_undo : MI := (cX8_undo, 2, (some .int), RX8, 4, 90, false)
theorem lk_X8_undo : LkV yX8_undo I_X8_undo 0 := ⟨⟨mem_TBL 673 (by decide +kernel) rfl, mem_TBL 41 (by decide +kernel) rfl, by decide +kernel, rfl⟩, mem_TBL 671 (by decide +kernel) rfl, mem_TBL 672 (by decide +kernel) rfl⟩
abbrev I_X8_weight : MI := (cX8_weight, 3, (some .int), RX8, 4, 87, false)
theorem lk_X8_weight : LkV yX8_weight I_X8_weight 1 := ⟨⟨mem_TBL 411 (by decide +kernel) rfl, mem_TBL 41 (by decide +kernel) rfl, by decide +kernel, rfl⟩, mem_TBL 409 (by decide +kernel) rfl, mem_TBL 410 (by decide +kernel) rfl⟩
abbrev I_X9_account : MI := (cX9_account, 3, (some .int), RX9, 1, 22, false)
theorem lk_X9_account : LkV yX9_account I_X9_account 2 := ⟨⟨mem_TBL 989 (by decide +kernel) rfl, mem_TBL 51 (by decide +kernel) rfl, by decide +kernel, rfl⟩, mem_TBL 987 (by decide +kernel) rfl, mem_TBL 988 (by decide +kernel) rfl⟩
abbrev I_X9_append : MI := (cX9_append, 2, (some .int), RX9, 1, 22, false)
theorem lk_X9_append : LkV yX9_append I_X9_append 1 := ⟨⟨mem_TBL 981 (by decide +kernel) rfl, mem_TBL 51 (by decide +kernel) rfl, by decide +kernel, rfl⟩, mem_TBL 979 (by decide +kernel) rfl, mem_TBL 980 (by decide +kernel) rfl⟩
abbrev I_X9_below : MI := (cX9_below, 5, (some .int), RX9, 1, 22, false)
theorem lk_X9_below : LkV yX9_below I_X9_below 2 := ⟨⟨mem_TBL 859 (by decide +kernel) rfl, mem_TBL 51 (by decide +kernel) rfl, by decide +kernel, rfl⟩, mem_TBL 858 (by decide +kernel) rfl, mem_TBL 25 (by decide +kernel) rfl⟩
abbrev I_X9_bytes : MI := (cX9_bytes, 1, (some .int), RX9, 0, 0, false)
theorem lk_X9_bytes : LkV yX9_bytes I_X9_bytes 0 := ⟨⟨mem_TBL 929 (by decide +kernel) rfl, mem_TBL 51 (by decide +kernel) rfl, by decide +kernel, rfl⟩, mem_TBL 927 (by decide +kernel) rfl, mem_TBL 928 (by decide +kernel) rfl⟩
abbrev I_X9_carries : MI := (cX9_carries, 3, none, RX9, 0, 0, false)
theorem lk_X9_carries : LkV yX9_carries I_X9_carries 0 := ⟨⟨mem_TBL 882 (by decide +kernel) rfl, mem_TBL 51 (by decide +kernel) rfl, by decide +kernel, rfl⟩, mem_TBL 881 (by decide +kernel) rfl, mem_TBL 29 (by decide +kernel) rfl⟩
abbrev I_X9_checkOf : MI := (cX9_checkOf, 4, (some .int), RX9, 0, 0, false)
theorem lk_X9_checkOf : LkS yX9_checkOf I_X9_checkOf 2 := ⟨⟨mem_TBL 918 (by decide +kernel) rfl, mem_TBL 51 (by decide +kernel) rfl, by decide +kernel, rfl⟩, mem_TBL 917 (by decide +kernel) rfl⟩
abbrev I_X9_clears : MI := (cX9_clears, 2, none, RX9, 0, 0, false)
theorem lk_X9_clears : LkV yX9_clears I_X9_clears 0 := ⟨⟨mem_TBL 855 (by decide +kernel) rfl, mem_TBL 51 (by decide +kernel) rfl, by decide +kernel, rfl⟩, mem_TBL 854 (by decide +kernel) rfl, mem_TBL 24 (by decide +kernel) rfl⟩
abbrev I_X9_codeByte : MI := (cX9_codeByte, 2, (some .int), RX9, 1, 22, false)
theorem lk_X9_codeByte : LkV yX9_codeByte I_X9_codeByte 1 := ⟨⟨mem_TBL 933 (by decide +kernel) rfl, mem_TBL 51 (by decide +kernel) rfl, by decide +kernel, rfl⟩, mem_TBL 931 (by decide +kernel) rfl, mem_TBL 932 (by decide +kernel) rfl⟩
abbrev I_X9_coded : MI := (cX9_coded, 1, (some .int), RX9, 0, 0, false)
theorem lk_X9_coded : LkV yX9_coded I_X9_coded 0 := ⟨⟨mem_TBL 985 (by decide +kernel) rfl, mem_TBL 51 (by decide +kernel) rfl, by decide +kernel, rfl⟩, mem_TBL 983 (by decide +kernel) rfl, mem_TBL 984 (by decide +kernel) rfl⟩
abbrev I_X9_codes : MI := (cX9_codes, 9, none, RX9, 3, 73, false)
theorem lk_X9_codes : LkV yX9_codes I_X9_codes 3 := ⟨⟨mem_TBL 851 (by decide +kernel) rfl, mem_TBL 51 (by decide +kernel) rfl, by decide +kernel, rfl⟩, mem_TBL 850 (by decide +kernel) rfl, mem_TBL 23 (by decide +kernel) rfl⟩
abbrev I_X9_codesAll : MI := (cX9_codesAll, 5, none, RX9, 4, 101, false)
theorem lk_X9_codesAll : LkV yX9_codesAll I_X9_codesAll 2 := ⟨⟨mem_TBL 911 (by decide +kernel) rfl, mem_TBL 51 (by decide +kernel) rfl, by decide +kernel, rfl⟩, mem_TBL 910 (by decide +kernel) rfl, mem_TBL 31 (by decide +kernel) rfl⟩
abbrev I_X9_contexts : MI := (cX9_contexts, 1, (some .int), RX9, 0, 0, false)
theorem lk_X9_contexts : LkV yX9_contexts I_X9_contexts 0 := ⟨⟨mem_TBL 831 (by decide +kernel) rfl, mem_TBL 51 (by decide +kernel) rfl, by decide +kernel, rfl⟩, mem_TBL 829 (by decide +kernel) rfl, mem_TBL 830 (by decide +kernel) rfl⟩
abbrev I_X9_copies : MI := (cX9_copies, 3, none, RX9, 0, 0, false)
theorem lk_X9_copies : LkS yX9_copies I_X9_copies 2 := ⟨⟨mem_TBL 907 (by decide +kernel) rfl, mem_TBL 51 (by decide +kernel) rfl, by decide +kernel, rfl⟩, mem_TBL 906 (by decide +kernel) rfl⟩
abbrev I_X9_cost : MI := (cX9_cost, 1, (some .int), RX9, 0, 0, false)
theorem lk_X9_cost : LkV yX9_cost I_X9_cost 0 := ⟨⟨mem_TBL 993 (by decide +kernel) rfl, mem_TBL 51 (by decide +kernel) rfl, by decide +kernel, rfl⟩, mem_TBL 991 (by decide +kernel) rfl, mem_TBL 992 (by decide +kernel) rfl⟩
abbrev I_X9_count : MI := (cX9_count, 4, (some .int), RX9, 2, 49, false)
theorem lk_X9_count : LkV yX9_count I_X9_count 2 := ⟨⟨mem_TBL 835 (by decide +kernel) rfl, mem_TBL 51 (by decide +kernel) rfl, by decide +kernel, rfl⟩, mem_TBL 833 (by decide +kernel) rfl, mem_TBL 834 (by decide +kernel) rfl⟩
abbrev I_X9_countAt : MI := (cX9_countAt, 3, (some .int), RX9, 0, 0, false)
theorem lk_X9_countAt : LkV yX9_countAt I_X9_countAt 2 := ⟨⟨mem_TBL 827 (by decide +kernel) rfl, mem_TBL 51 (by decide +kernel) rfl, by decide +kernel, rfl⟩, mem_TBL 826 (by decide +kernel) rfl, mem_TBL 21 (by decide +kernel) rfl⟩
abbrev I_X9_counts : MI := (cX9_counts, 4, none, RX9, 2, 45, false)
theorem lk_X9_counts : LkV yX9_counts I_X9_counts 2 := ⟨⟨mem_TBL 819 (by decide +kernel) rfl, mem_TBL 51 (by decide +kernel) rfl, by decide +kernel, rfl⟩, mem_TBL 818 (by decide +kernel) rfl, mem_TBL 19 (by decide +kernel) rfl⟩
abbrev I_X9_cut : MI := (cX9_cut, 2, (some .int), RX9, 1, 22, false)
theorem lk_X9_cut : LkV yX9_cut I_X9_cut 1 := ⟨⟨mem_TBL 977 (by decide +kernel) rfl, mem_TBL 51 (by decide +kernel) rfl, by decide +kernel, rfl⟩, mem_TBL 975 (by decide +kernel) rfl, mem_TBL 976 (by decide +kernel) rfl⟩
abbrev I_X9_decode : MI := (cX9_decode, 3, (some .int), RX9, 5, 125, false)
theorem lk_X9_decode : LkV yX9_decode I_X9_decode 0 := ⟨⟨mem_TBL 941 (by decide +kernel) rfl, mem_TBL 51 (by decide +kernel) rfl, by decide +kernel, rfl⟩, mem_TBL 939 (by decide +kernel) rfl, mem_TBL 940 (by decide +kernel) rfl⟩
abbrev I_X9_decoded : MI := (cX9_decoded, 2, (some .int), RX9, 0, 0, false)
theorem lk_X9_decoded : LkV yX9_decoded I_X9_decoded 1 := ⟨⟨mem_TBL 969 (by decide +kernel) rfl, mem_TBL 51 (by decide +kernel) rfl, by decide +kernel, rfl⟩, mem_TBL 967 (by decide +kernel) rfl, mem_TBL 968 (by decide +kernel) rfl⟩
abbrev I_X9_decodes : MI := (cX9_decodes, 10, (some .int), RX9, 2, 49, false)
theorem lk_X9_decodes : LkV yX9_decodes I_X9_decodes 2 := ⟨⟨mem_TBL 953 (by decide +kernel) rfl, mem_TBL 51 (by decide +kernel) rfl, by decide +kernel, rfl⟩, mem_TBL 952 (by decide +kernel) rfl, mem_TBL 36 (by decide +kernel) rfl⟩
abbrev I_X9_decodesAll : MI := (cX9_decodesAll, 2, (some .int), RX9, 4, 94, false)
theorem lk_X9_decodesAll : LkV yX9_decodesAll I_X9_decodesAll 0 := ⟨⟨mem_TBL 945 (by decide +kernel) rfl, mem_TBL 51 (by decide +kernel) rfl, by decide +kernel, rfl⟩, mem_TBL 944 (by decide +kernel) rfl, mem_TBL 34 (by decide +kernel) rfl⟩
abbrev I_X9_empties : MI := (cX9_empties, 2, none, RX9, 0, 0, false)
theorem lk_X9_empties : LkV yX9_empties I_X9_empties 0 := ⟨⟨mem_TBL 780 (by decide +kernel) rfl, mem_TBL 51 (by decide +kernel) rfl, by decide +kernel, rfl⟩, mem_TBL 779 (by decide +kernel) rfl, mem_TBL 15 (by decide +kernel) rfl⟩
abbrev I_X9_encode : MI := (cX9_encode, 2, (some .int), RX9, 5, 125, false)
theorem lk_X9_encode : LkV yX9_encode I_X9_encode 0 := ⟨⟨mem_TBL 904 (by decide +kernel) rfl, mem_TBL 51 (by decide +kernel) rfl, by decide +kernel, rfl⟩, mem_TBL 902 (by decide +kernel) rfl, mem_TBL 903 (by decide +kernel) rfl⟩
abbrev I_X9_excludes : MI := (cX9_excludes, 3, none, RX9, 1, 22, false)
theorem lk_X9_excludes : LkV yX9_excludes I_X9_excludes 1 := ⟨⟨mem_TBL 888 (by decide +kernel) rfl, mem_TBL 51 (by decide +kernel) rfl, by decide +kernel, rfl⟩, mem_TBL 887 (by decide +kernel) rfl, mem_TBL 30 (by decide +kernel) rfl⟩
abbrev I_X9_find : MI := (cX9_find, 6, (some .int), RX9, 1, 24, false)
theorem lk_X9_find : LkV yX9_find I_X9_find 3 := ⟨⟨mem_TBL 812 (by decide +kernel) rfl, mem_TBL 51 (by decide +kernel) rfl, by decide +kernel, rfl⟩, mem_TBL 811 (by decide +kernel) rfl, mem_TBL 18 (by decide +kernel) rfl⟩
abbrev I_X9_fingerprint : MI := (cX9_fingerprint, 4, (some .long), RX9, 0, 0, false)
theorem lk_X9_fingerprint : LkV yX9_fingerprint I_X9_fingerprint 0 := ⟨⟨mem_TBL 1006 (by decide +kernel) rfl, mem_TBL 51 (by decide +kernel) rfl, by decide +kernel, rfl⟩, mem_TBL 1004 (by decide +kernel) rfl, mem_TBL 1005 (by decide +kernel) rfl⟩
abbrev I_X9_finishes : MI := (cX9_finishes, 7, none, RX9, 1, 22, false)
theorem lk_X9_finishes : LkV yX9_finishes I_X9_finishes 0 := ⟨⟨mem_TBL 924 (by decide +kernel) rfl, mem_TBL 51 (by decide +kernel) rfl, by decide +kernel, rfl⟩, mem_TBL 923 (by decide +kernel) rfl, mem_TBL 33 (by decide +kernel) rfl⟩
abbrev I_X9_flip : MI := (cX9_flip, 3, (some .int), RX9, 1, 22, false)
theorem lk_X9_flip : LkV yX9_flip I_X9_flip 2 := ⟨⟨mem_TBL 973 (by decide +kernel) rfl, mem_TBL 51 (by decide +kernel) rfl, by decide +kernel, rfl⟩, mem_TBL 971 (by decide +kernel) rfl, mem_TBL 972 (by decide +kernel) rfl⟩
abbrev I_X9_forget : MI := (cX9_forget, 2, (some .int), RX9, 1, 22, false)
theorem lk_X9_forget : LkV yX9_forget I_X9_forget 0 := ⟨⟨mem_TBL 796 (by decide +kernel) rfl, mem_TBL 51 (by decide +kernel) rfl, by decide +kernel, rfl⟩, mem_TBL 794 (by decide +kernel) rfl, mem_TBL 795 (by decide +kernel) rfl⟩
abbrev I_X9_guess : MI := (cX9_guess, 5, (some .int), RX9, 5, 122, false)
theorem lk_X9_guess : LkV yX9_guess I_X9_guess 0 := ⟨⟨mem_TBL 892 (by decide +kernel) rfl, mem_TBL 51 (by decide +kernel) rfl, by decide +kernel, rfl⟩, mem_TBL 890 (by decide +kernel) rfl, mem_TBL 891 (by decide +kernel) rfl⟩
abbrev I_X9_in : MI := (cX9_in, 3, (some .boolean), RX9, 0, 0, false)
theorem lk_X9_in : LkS yX9_in I_X9_in 3 := ⟨⟨mem_TBL 767 (by decide +kernel) rfl, mem_TBL 51 (by decide +kernel) rfl, by decide +kernel, rfl⟩, mem_TBL 766 (by decide +kernel) rfl⟩
abbrev I_X9_init : MI := (cX9_init, 2, none, RX9, 1, 20, true)
theorem lk_X9_init : LkI yX9_init I_X9_init 1 := ⟨⟨mem_TBL 691 (by decide +kernel) rfl, mem_TBL 51 (by decide +kernel) rfl, by decide +kernel, rfl⟩, mem_TBL 690 (by decide +kernel) rfl, rfl, rfl⟩
abbrev I_X9_interval : MI := (cX9_interval, 4, none, RX9, 2, 50, false)
theorem lk_X9_interval : LkV yX9_interval I_X9_interval 3 := ⟨⟨mem_TBL 867 (by decide +kernel) rfl, mem_TBL 51 (by decide +kernel) rfl, by decide +kernel, rfl⟩, mem_TBL 866 (by decide +kernel) rfl, mem_TBL 27 (by decide +kernel) rfl⟩
abbrev I_X9_isCode : MI := (cX9_isCode, 3, (some .boolean), RX9, 0, 0, false)
theorem lk_X9_isCode : LkV yX9_isCode I_X9_isCode 0 := ⟨⟨mem_TBL 965 (by decide +kernel) rfl, mem_TBL 51 (by decide +kernel) rfl, by decide +kernel, rfl⟩, mem_TBL 964 (by decide +kernel) rfl, mem_TBL 39 (by decide +kernel) rfl⟩
abbrev I_X9_keeps : MI := (cX9_keeps, 3, none, RX9, 0, 0, false)
theorem lk_X9_keeps : LkV yX9_keeps I_X9_keeps 1 := ⟨⟨mem_TBL 775 (by decide +kernel) rfl, mem_TBL 51 (by decide +kernel) rfl, by decide +kernel, rfl⟩, mem_TBL 774 (by decide +kernel) rfl, mem_TBL 14 (by decide +kernel) rfl⟩
abbrev I_X9_keyOf : MI := (cX9_keyOf, 5, (some .int), RX9, 0, 0, false)
theorem lk_X9_keyOf : LkS yX9_keyOf I_X9_keyOf 3 := ⟨⟨mem_TBL 815 (by decide +kernel) rfl, mem_TBL 51 (by decide +kernel) rfl, by decide +kernel, rfl⟩, mem_TBL 814 (by decide +kernel) rfl⟩
abbrev I_X9_known : MI := (cX9_known, 4, (some .int), RX9, 1, 22, false)
theorem lk_X9_known : LkV yX9_known I_X9_known 1 := ⟨⟨mem_TBL 863 (by decide +kernel) rfl, mem_TBL 51 (by decide +kernel) rfl, by decide +kernel, rfl⟩, mem_TBL 862 (by decide +kernel) rfl, mem_TBL 26 (by decide +kernel) rfl⟩
abbrev I_X9_learn : MI := (cX9_learn, 2, (some .int), RX9, 4, 94, false)
theorem lk_X9_learn : LkV yX9_learn I_X9_learn 0 := ⟨⟨mem_TBL 800 (by decide +kernel) rfl, mem_TBL 51 (by decide +kernel) rfl, by decide +kernel, rfl⟩, mem_TBL 798 (by decide +kernel) rfl, mem_TBL 799 (by decide +kernel) rfl⟩
abbrev I_X9_learns : MI := (cX9_learns, 7, none, RX9, 3, 68, false)
theorem lk_X9_learns : LkV yX9_learns I_X9_learns 3 := ⟨⟨mem_TBL 808 (by decide +kernel) rfl, mem_TBL 51 (by decide +kernel) rfl, by decide +kernel, rfl⟩, mem_TBL 807 (by decide +kernel) rfl, mem_TBL 17 (by decide +kernel) rfl⟩
abbrev I_X9_lg : MI := (cX9_lg, 3, (some .int), RX9, 1, 25, false)
theorem lk_X9_lg : LkV yX9_lg I_X9_lg 2 := ⟨⟨mem_TBL 997 (by decide +kernel) rfl, mem_TBL 51 (by decide +kernel) rfl, by decide +kernel, rfl⟩, mem_TBL 995 (by decide +kernel) rfl, mem_TBL 996 (by decide +kernel) rfl⟩
abbrev I_X9_log : MI := (cX9_log, 6, (some .int), RX9, 0, 0, false)
theorem lk_X9_log : LkS yX9_log I_X9_log 1 := ⟨⟨mem_TBL 870 (by decide +kernel) rfl, mem_TBL 51 (by decide +kernel) rfl, by decide +kernel, rfl⟩, mem_TBL 869 (by decide +kernel) rfl⟩
abbrev I_X9_longestCarry : MI := (cX9_longestCarry, 1, (some .int), RX9, 0, 0, false)
theorem lk_X9_longestCarry : LkV yX9_longestCarry I_X9_longestCarry 0 := ⟨⟨mem_TBL 937 (by decide +kernel) rfl, mem_TBL 51 (by decide +kernel) rfl, by decide +kernel, rfl⟩, mem_TBL 935 (by decide +kernel) rfl, mem_TBL 936 (by decide +kernel) rfl⟩
abbrev I_X9_nextByte : MI := (cX9_nextByte, 2, (some .int), RX9, 0, 0, false)
theorem lk_X9_nextByte : LkV yX9_nextByte I_X9_nextByte 0 := ⟨⟨mem_TBL 949 (by decide +kernel) rfl, mem_TBL 51 (by decide +kernel) rfl, by decide +kernel, rfl⟩, mem_TBL 948 (by decide +kernel) rfl, mem_TBL 35 (by decide +kernel) rfl⟩
abbrev I_X9_price : MI := (cX9_price, 2, (some .int), RX9, 5, 122, false)
theorem lk_X9_price : LkV yX9_price I_X9_price 1 := ⟨⟨mem_TBL 843 (by decide +kernel) rfl, mem_TBL 51 (by decide +kernel) rfl, by decide +kernel, rfl⟩, mem_TBL 841 (by decide +kernel) rfl, mem_TBL 842 (by decide +kernel) rfl⟩
abbrev I_X9_priceOf : MI := (cX9_priceOf, 2, (some .int), RX9, 4, 101, false)
theorem lk_X9_priceOf : LkV yX9_priceOf I_X9_priceOf 1 := ⟨⟨mem_TBL 847 (by decide +kernel) rfl, mem_TBL 51 (by decide +kernel) rfl, by decide +kernel, rfl⟩, mem_TBL 846 (by decide +kernel) rfl, mem_TBL 22 (by decide +kernel) rfl⟩
abbrev I_X9_reads : MI := (cX9_reads, 6, none, RX9, 1, 21, false)
theorem lk_X9_reads : LkV yX9_reads I_X9_reads 3 := ⟨⟨mem_TBL 961 (by decide +kernel) rfl, mem_TBL 51 (by decide +kernel) rfl, by decide +kernel, rfl⟩, mem_TBL 960 (by decide +kernel) rfl, mem_TBL 38 (by decide +kernel) rfl⟩
abbrev I_X9_remove : MI := (cX9_remove, 2, (some .int), RX9, 0, 0, false)
theorem lk_X9_remove : LkV yX9_remove I_X9_remove 1 := ⟨⟨mem_TBL 900 (by decide +kernel) rfl, mem_TBL 51 (by decide +kernel) rfl, by decide +kernel, rfl⟩, mem_TBL 898 (by decide +kernel) rfl, mem_TBL 899 (by decide +kernel) rfl⟩
abbrev I_X9_setExclusion : MI := (cX9_setExclusion, 2, (some .int), RX9, 2, 45, false)
theorem lk_X9_setExclusion : LkV yX9_setExclusion I_X9_setExclusion 1 := ⟨⟨mem_TBL 784 (by decide +kernel) rfl, mem_TBL 51 (by decide +kernel) rfl, by decide +kernel, rfl⟩, mem_TBL 782 (by decide +kernel) rfl, mem_TBL 783 (by decide +kernel) rfl⟩
abbrev I_X9_setLimit : MI := (cX9_setLimit, 2, (some .int), RX9, 2, 45, false)
theorem lk_X9_setLimit : LkV yX9_setLimit I_X9_setLimit 1 := ⟨⟨mem_TBL 792 (by decide +kernel) rfl, mem_TBL 51 (by decide +kernel) rfl, by decide +kernel, rfl⟩, mem_TBL 790 (by decide +kernel) rfl, mem_TBL 791 (by decide +kernel) rfl⟩
abbrev I_X9_setOrder : MI := (cX9_setOrder, 3, (some .int), RX9, 2, 45, false)
theorem lk_X9_setOrder : LkV yX9_setOrder I_X9_setOrder 1 := ⟨⟨mem_TBL 764 (by decide +kernel) rfl, mem_TBL 51 (by decide +kernel) rfl, by decide +kernel, rfl⟩, mem_TBL 762 (by decide +kernel) rfl, mem_TBL 763 (by decide +kernel) rfl⟩
abbrev I_X9_setStep : MI := (cX9_setStep, 2, (some .int), RX9, 2, 45, false)
theorem lk_X9_setStep : LkV yX9_setStep I_X9_setStep 1 := ⟨⟨mem_TBL 788 (by decide +kernel) rfl, mem_TBL 51 (by decide +kernel) rfl, by decide +kernel, rfl⟩, mem_TBL 786 (by decide +kernel) rfl, mem_TBL 787 (by decide +kernel) rfl⟩
abbrev I_X9_sets : MI := (cX9_sets, 4, (some .int), RX9, 1, 22, false)
theorem lk_X9_sets : LkV yX9_sets I_X9_sets 2 := ⟨⟨mem_TBL 771 (by decide +kernel) rfl, mem_TBL 51 (by decide +kernel) rfl, by decide +kernel, rfl⟩, mem_TBL 770 (by decide +kernel) rfl, mem_TBL 13 (by decide +kernel) rfl⟩
abbrev I_X9_starts : MI := (cX9_starts, 1, none, RX9, 0, 0, false)
theorem lk_X9_starts : LkV yX9_starts I_X9_starts 0 := ⟨⟨mem_TBL 915 (by decide +kernel) rfl, mem_TBL 51 (by decide +kernel) rfl, by decide +kernel, rfl⟩, mem_TBL 914 (by decide +kernel) rfl, mem_TBL 32 (by decide +kernel) rfl⟩
abbrev I_X9_symbolAt : MI := (cX9_symbolAt, 4, (some .int), RX9, 0, 0, false)
theorem lk_X9_symbolAt : LkV yX9_symbolAt I_X9_symbolAt 3 := ⟨⟨mem_TBL 804 (by decide +kernel) rfl, mem_TBL 51 (by decide +kernel) rfl, by decide +kernel, rfl⟩, mem_TBL 803 (by decide +kernel) rfl, mem_TBL 16 (by decide +kernel) rfl⟩
abbrev I_X9_target : MI := (cX9_target, 4, (some .int), RX9, 0, 0, false)
theorem lk_X9_target : LkV yX9_target I_X9_target 1 := ⟨⟨mem_TBL 957 (by decide +kernel) rfl, mem_TBL 51 (by decide +kernel) rfl, by decide +kernel, rfl⟩, mem_TBL 956 (by decide +kernel) rfl, mem_TBL 37 (by decide +kernel) rfl⟩
abbrev I_X9_type : MI := (cX9_type, 2, (some .int), RX9, 1, 22, false)
theorem lk_X9_type : LkV yX9_type I_X9_type 1 := ⟨⟨mem_TBL 896 (by decide +kernel) rfl, mem_TBL 51 (by decide +kernel) rfl, by decide +kernel, rfl⟩, mem_TBL 894 (by decide +kernel) rfl, mem_TBL 895 (by decide +kernel) rfl⟩
abbrev I_X9_undo : MI := (cX9_undo, 2, (some .int), RX9, 0, 0, false)
theorem lk_X9_undo : LkV yX9_undo I_X9_undo 0 := ⟨⟨mem_TBL 1002 (by decide +kernel) rfl, mem_TBL 51 (by decide +kernel) rfl, by decide +kernel, rfl⟩, mem_TBL 1000 (by decide +kernel) rfl, mem_TBL 1001 (by decide +kernel) rfl⟩
abbrev I_X9_weight : MI := (cX9_weight, 3, (some .int), RX9, 2, 49, false)
theorem lk_X9_weight : LkV yX9_weight I_X9_weight 1 := ⟨⟨mem_TBL 839 (by decide +kernel) rfl, mem_TBL 51 (by decide +kernel) rfl, by decide +kernel, rfl⟩, mem_TBL 837 (by decide +kernel) rfl, mem_TBL 838 (by decide +kernel) rfl⟩
abbrev I_X9_weightOf : MI := (cX9_weightOf, 4, (some .int), RX9, 1, 22, false)
theorem lk_X9_weightOf : LkV yX9_weightOf I_X9_weightOf 1 := ⟨⟨mem_TBL 823 (by decide +kernel) rfl, mem_TBL 51 (by decide +kernel) rfl, by decide +kernel, rfl⟩, mem_TBL 822 (by decide +kernel) rfl, mem_TBL 20 (by decide +kernel) rfl⟩
abbrev I_X9_writes : MI := (cX9_writes, 9, none, RX9, 1, 22, false)
theorem lk_X9_writes : LkV yX9_writes I_X9_writes 3 := ⟨⟨mem_TBL 877 (by decide +kernel) rfl, mem_TBL 51 (by decide +kernel) rfl, by decide +kernel, rfl⟩, mem_TBL 876 (by decide +kernel) rfl, mem_TBL 28 (by decide +kernel) rfl⟩
theorem lo_X0_3 : Cond.methodLink RX0 3 Lib.objectInit ∈ TBL ∧ Cond.instanceMethod Lib.objectInit ∈ TBL ∧ Cond.code Lib.objectInit ⟨#[0xb1]⟩ 1 none ∈ TBL := ⟨mem_TBL 182 (by decide +kernel) rfl, mem_TBL 59 (by decide +kernel) rfl, mem_TBL 60 (by decide +kernel) rfl⟩
theorem fl_X0_9 : FL RX0 9 0 0 RX0 TX0 2 tyX0 := ⟨cis_0, by decide, Or.inl (mem_TBL 183 (by decide +kernel) rfl)⟩
theorem ff_X0_9 : Cond.fieldLink RX0 9 RX0 (TX0 0).2.1 (TX0 0).2.2.1 ∈ TBL := mem_TBL 183 (by decide +kernel) rfl
theorem fl_X0_15 : FL RX0 15 0 1 RX0 TX0 2 tyX0 := ⟨cis_0, by decide, Or.inl (mem_TBL 184 (by decide +kernel) rfl)⟩
theorem lm_X0_19 : LkM RX0 19 yX0_remains := Or.inl (mem_TBL 445 (by decide +kernel) rfl)
theorem lm_X0_23 : LkM RX0 23 yX4_countIn := Or.inl (mem_TBL 449 (by decide +kernel) rfl)
theorem lm_X0_29 : LkM RX0 29 yX4_weightOf := Or.inl (mem_TBL 440 (by decide +kernel) rfl)
theorem lm_X0_33 : LkM RX0 33 yX0_sumBelow := Or.inl (mem_TBL 441 (by decide +kernel) rfl)
theorem fl_X0_37 : FL RX0 37 7 1 RX7 TX7 8 tyX7 := ⟨cis_7, by decide, Or.inr ⟨"ContextCoder", List.mem_of_getElem? (i := 143) (by decide +kernel)⟩⟩
theorem fl_X0_42 : FL RX0 42 7 4 RX7 TX7 8 tyX7 := ⟨cis_7, by decide, Or.inl (mem_TBL 150 (by decide +kernel) rfl)⟩
theorem ff_X0_42 : Cond.fieldLink RX0 42 RX7 (TX7 4).2.1 (TX7 4).2.2.1 ∈ TBL := mem_TBL 150 (by decide +kernel) rfl
theorem lo_X1_3 : Cond.methodLink RX1 3 Lib.objectInit ∈ TBL ∧ Cond.instanceMethod Lib.objectInit ∈ TBL ∧ Cond.code Lib.objectInit ⟨#[0xb1]⟩ 1 none ∈ TBL := ⟨mem_TBL 244 (by decide +kernel) rfl, mem_TBL 59 (by decide +kernel) rfl, mem_TBL 60 (by decide +kernel) rfl⟩
theorem fl_X1_9 : FL RX1 9 1 0 RX1 TX1 4 tyX1 := ⟨cis_1, by decide, Or.inl (mem_TBL 245 (by decide +kernel) rfl)⟩
theorem fl_X1_15 : FL RX1 15 1 1 RX1 TX1 4 tyX1 := ⟨cis_1, by decide, Or.inl (mem_TBL 246 (by decide +kernel) rfl)⟩
theorem fl_X1_19 : FL RX1 19 1 2 RX1 TX1 4 tyX1 := ⟨cis_1, by decide, Or.inl (mem_TBL 247 (by decide +kernel) rfl)⟩
theorem lm_X1_23 : LkM RX1 23 yX1_shift := Or.inl (mem_TBL 599 (by decide +kernel) rfl)
theorem kc_X1_26 : Cond.constantLong RX1 26 (4294967296 : Int64) ∈ TBL := mem_TBL 605 (by decide +kernel) rfl
theorem fl_X1_28 : FL RX1 28 1 3 RX1 TX1 4 tyX1 := ⟨cis_1, by decide, Or.inl (mem_TBL 248 (by decide +kernel) rfl)⟩
theorem lm_X1_31 : LkM RX1 31 yX6_item := Or.inl (mem_TBL 603 (by decide +kernel) rfl)
theorem kc_X1_37 : Cond.constantLong RX1 37 (256 : Int64) ∈ TBL := mem_TBL 604 (by decide +kernel) rfl
theorem lj_X1_39 : Cond.methodLink RX1 39 Lib.MathLoose.min_long.x ∈ TBL ∧ Cond.static Lib.MathLoose.min_long.x ∈ TBL ∧ Cond.initialized "java/lang/Math" ∈ TBL ∧ Cond.code Lib.MathLoose.min_long.x Lib.MathLoose.min_long.code 4 (some .long) ∈ TBL := ⟨mem_TBL 614 (by decide +kernel) rfl, mem_TBL 615 (by decide +kernel) rfl, mem_TBL 45 (by decide +kernel) rfl, mem_TBL 616 (by decide +kernel) rfl⟩
theorem kc_X1_45 : Cond.constantLong RX1 45 (16777216 : Int64) ∈ TBL := mem_TBL 625 (by decide +kernel) rfl
theorem lo_X2_3 : Cond.methodLink RX2 3 Lib.objectInit ∈ TBL ∧ Cond.instanceMethod Lib.objectInit ∈ TBL ∧ Cond.code Lib.objectInit ⟨#[0xb1]⟩ 1 none ∈ TBL := ⟨mem_TBL 221 (by decide +kernel) rfl, mem_TBL 59 (by decide +kernel) rfl, mem_TBL 60 (by decide +kernel) rfl⟩
theorem ln_X2_9 : Cond.classLink RX2 9 RX6 ∈ TBL ∧ Cond.instantiable RX6 2 ∈ TBL ∧ Cond.initialized RX6 ∈ TBL := ⟨mem_TBL 222 (by decide +kernel) rfl, mem_TBL 92 (by decide +kernel) rfl, mem_TBL 44 (by decide +kernel) rfl⟩
theorem lm_X2_11 : LkM RX2 11 yX6_init := Or.inl (mem_TBL 223 (by decide +kernel) rfl)
theorem fl_X2_14 : FL RX2 14 2 2 RX2 TX2 4 tyX2 := ⟨cis_2, by decide, Or.inl (mem_TBL 226 (by decide +kernel) rfl)⟩
theorem ff_X2_14 : Cond.fieldLink RX2 14 RX2 (TX2 2).2.1 (TX2 2).2.2.1 ∈ TBL := mem_TBL 226 (by decide +kernel) rfl
theorem fl_X2_20 : FL RX2 20 2 0 RX2 TX2 4 tyX2 := ⟨cis_2, by decide, Or.inl (mem_TBL 224 (by decide +kernel) rfl)⟩
theorem kc_X2_24 : Cond.constantLong RX2 24 (4294967296 : Int64) ∈ TBL := mem_TBL 525 (by decide +kernel) rfl
theorem fl_X2_26 : FL RX2 26 2 1 RX2 TX2 4 tyX2 := ⟨cis_2, by decide, Or.inl (mem_TBL 225 (by decide +kernel) rfl)⟩
theorem lm_X2_29 : LkM RX2 29 yX6_clear := Or.inl (mem_TBL 526 (by decide +kernel) rfl)
theorem fl_X2_32 : FL RX2 32 2 3 RX2 TX2 4 tyX2 := ⟨cis_2, by decide, Or.inl (mem_TBL 228 (by decide +kernel) rfl)⟩
theorem lm_X2_36 : LkM RX2 36 yX2_carry := Or.inl (mem_TBL 539 (by decide +kernel) rfl)
theorem kc_X2_39 : Cond.constantLong RX2 39 (16777216 : Int64) ∈ TBL := mem_TBL 549 (by decide +kernel) rfl
theorem lm_X2_41 : LkM RX2 41 yX6_push := Or.inl (mem_TBL 550 (by decide +kernel) rfl)
theorem kc_X2_44 : Cond.constantLong RX2 44 (256 : Int64) ∈ TBL := mem_TBL 551 (by decide +kernel) rfl
theorem fl_X2_46 : FL RX2 46 6 1 RX6 TX6 2 tyX6 := ⟨cis_6, by decide, Or.inr ⟨"ContextCoder", List.mem_of_getElem? (i := 103) (by decide +kernel)⟩⟩
theorem lm_X2_49 : LkM RX2 49 yX6_item := Or.inl (mem_TBL 543 (by decide +kernel) rfl)
theorem lm_X2_53 : LkM RX2 53 yX6_put := Or.inl (mem_TBL 544 (by decide +kernel) rfl)
theorem lj_X2_57 : Cond.methodLink RX2 57 Lib.Math.max.name ∈ TBL ∧ Cond.static Lib.Math.max.name ∈ TBL ∧ Cond.initialized "java/lang/Math" ∈ TBL ∧ Cond.code Lib.Math.max.name Lib.Math.max.code 2 (some .int) ∈ TBL := ⟨mem_TBL 548 (by decide +kernel) rfl, mem_TBL 98 (by decide +kernel) rfl, mem_TBL 45 (by decide +kernel) rfl, mem_TBL 99 (by decide +kernel) rfl⟩
theorem lm_X2_63 : LkM RX2 63 yX2_leastMultiple := Or.inl (mem_TBL 565 (by decide +kernel) rfl)
theorem kc_X2_67 : Cond.constantLong RX2 67 (255 : Int64) ∈ TBL := mem_TBL 569 (by decide +kernel) rfl
theorem lm_X2_69 : LkM RX2 69 yX6_drop := Or.inl (mem_TBL 570 (by decide +kernel) rfl)
theorem lo_X3_3 : Cond.methodLink RX3 3 Lib.objectInit ∈ TBL ∧ Cond.instanceMethod Lib.objectInit ∈ TBL ∧ Cond.code Lib.objectInit ⟨#[0xb1]⟩ 1 none ∈ TBL := ⟨mem_TBL 115 (by decide +kernel) rfl, mem_TBL 59 (by decide +kernel) rfl, mem_TBL 60 (by decide +kernel) rfl⟩
theorem ln_X3_9 : Cond.classLink RX3 9 RX6 ∈ TBL ∧ Cond.instantiable RX6 2 ∈ TBL ∧ Cond.initialized RX6 ∈ TBL := ⟨mem_TBL 116 (by decide +kernel) rfl, mem_TBL 92 (by decide +kernel) rfl, mem_TBL 44 (by decide +kernel) rfl⟩
theorem lm_X3_11 : LkM RX3 11 yX6_init := Or.inl (mem_TBL 117 (by decide +kernel) rfl)
theorem fl_X3_14 : FL RX3 14 3 0 RX3 TX3 5 tyX3 := ⟨cis_3, by decide, Or.inl (mem_TBL 118 (by decide +kernel) rfl)⟩
theorem ff_X3_14 : Cond.fieldLink RX3 14 RX3 (TX3 0).2.1 (TX3 0).2.2.1 ∈ TBL := mem_TBL 118 (by decide +kernel) rfl
theorem fl_X3_20 : FL RX3 20 3 1 RX3 TX3 5 tyX3 := ⟨cis_3, by decide, Or.inl (mem_TBL 120 (by decide +kernel) rfl)⟩
theorem ff_X3_20 : Cond.fieldLink RX3 20 RX3 (TX3 1).2.1 (TX3 1).2.2.1 ∈ TBL := mem_TBL 120 (by decide +kernel) rfl
theorem fl_X3_23 : FL RX3 23 3 2 RX3 TX3 5 tyX3 := ⟨cis_3, by decide, Or.inl (mem_TBL 122 (by decide +kernel) rfl)⟩
theorem ff_X3_23 : Cond.fieldLink RX3 23 RX3 (TX3 2).2.1 (TX3 2).2.2.1 ∈ TBL := mem_TBL 122 (by decide +kernel) rfl
theorem fl_X3_26 : FL RX3 26 3 3 RX3 TX3 5 tyX3 := ⟨cis_3, by decide, Or.inl (mem_TBL 124 (by decide +kernel) rfl)⟩
theorem ff_X3_26 : Cond.fieldLink RX3 26 RX3 (TX3 3).2.1 (TX3 3).2.2.1 ∈ TBL := mem_TBL 124 (by decide +kernel) rfl
theorem lm_X3_29 : LkM RX3 29 yX6_clear := Or.inl (mem_TBL 520 (by decide +kernel) rfl)
theorem fl_X3_32 : FL RX3 32 3 4 RX3 TX3 5 tyX3 := ⟨cis_3, by decide, Or.inl (mem_TBL 126 (by decide +kernel) rfl)⟩
theorem lm_X3_36 : LkM RX3 36 yX6_push := Or.inl (mem_TBL 556 (by decide +kernel) rfl)
theorem lm_X3_39 : LkM RX3 39 yX6_take := Or.inl (mem_TBL 329 (by decide +kernel) rfl)
theorem lo_X4_3 : Cond.methodLink RX4 3 Lib.objectInit ∈ TBL ∧ Cond.instanceMethod Lib.objectInit ∈ TBL ∧ Cond.code Lib.objectInit ⟨#[0xb1]⟩ 1 none ∈ TBL := ⟨mem_TBL 72 (by decide +kernel) rfl, mem_TBL 59 (by decide +kernel) rfl, mem_TBL 60 (by decide +kernel) rfl⟩
theorem fl_X4_9 : FL RX4 9 4 1 RX4 TX4 5 tyX4 := ⟨cis_4, by decide, Or.inl (mem_TBL 75 (by decide +kernel) rfl)⟩
theorem ff_X4_9 : Cond.fieldLink RX4 9 RX4 (TX4 1).2.1 (TX4 1).2.2.1 ∈ TBL := mem_TBL 75 (by decide +kernel) rfl
theorem fl_X4_15 : FL RX4 15 4 2 RX4 TX4 5 tyX4 := ⟨cis_4, by decide, Or.inl (mem_TBL 76 (by decide +kernel) rfl)⟩
theorem ff_X4_15 : Cond.fieldLink RX4 15 RX4 (TX4 2).2.1 (TX4 2).2.2.1 ∈ TBL := mem_TBL 76 (by decide +kernel) rfl
theorem fl_X4_18 : FL RX4 18 4 3 RX4 TX4 5 tyX4 := ⟨cis_4, by decide, Or.inl (mem_TBL 77 (by decide +kernel) rfl)⟩
theorem ff_X4_18 : Cond.fieldLink RX4 18 RX4 (TX4 3).2.1 (TX4 3).2.2.1 ∈ TBL := mem_TBL 77 (by decide +kernel) rfl
theorem fl_X4_21 : FL RX4 21 4 4 RX4 TX4 5 tyX4 := ⟨cis_4, by decide, Or.inl (mem_TBL 78 (by decide +kernel) rfl)⟩
theorem ff_X4_21 : Cond.fieldLink RX4 21 RX4 (TX4 4).2.1 (TX4 4).2.2.1 ∈ TBL := mem_TBL 78 (by decide +kernel) rfl
theorem fl_X4_24 : FL RX4 24 4 0 RX4 TX4 5 tyX4 := ⟨cis_4, by decide, Or.inl (mem_TBL 73 (by decide +kernel) rfl)⟩
theorem lj_X4_28 : Cond.methodLink RX4 28 Lib.Math.min.name ∈ TBL ∧ Cond.static Lib.Math.min.name ∈ TBL ∧ Cond.initialized "java/lang/Math" ∈ TBL ∧ Cond.code Lib.Math.min.name Lib.Math.min.code 2 (some .int) ∈ TBL := ⟨mem_TBL 314 (by decide +kernel) rfl, mem_TBL 259 (by decide +kernel) rfl, mem_TBL 45 (by decide +kernel) rfl, mem_TBL 260 (by decide +kernel) rfl⟩
theorem lj_X4_34 : Cond.methodLink RX4 34 Lib.Math.max.name ∈ TBL ∧ Cond.static Lib.Math.max.name ∈ TBL ∧ Cond.initialized "java/lang/Math" ∈ TBL ∧ Cond.code Lib.Math.max.name Lib.Math.max.code 2 (some .int) ∈ TBL := ⟨mem_TBL 315 (by decide +kernel) rfl, mem_TBL 98 (by decide +kernel) rfl, mem_TBL 45 (by decide +kernel) rfl, mem_TBL 99 (by decide +kernel) rfl⟩
theorem lc_X4_37 : Cond.methodLink RX4 37 arraycopyName ∈ TBL ∧ Cond.native arraycopyName ∈ TBL ∧ Cond.static arraycopyName ∈ TBL ∧ Cond.initialized "java/lang/System" ∈ TBL := ⟨mem_TBL 316 (by decide +kernel) rfl, mem_TBL 318 (by decide +kernel) rfl, mem_TBL 317 (by decide +kernel) rfl, mem_TBL 52 (by decide +kernel) rfl⟩
theorem lm_X4_43 : LkM RX4 43 yX4_find := Or.inl (mem_TBL 377 (by decide +kernel) rfl)
theorem lm_X4_47 : LkM RX4 47 yX4_has := Or.inl (mem_TBL 385 (by decide +kernel) rfl)
theorem lm_X4_51 : LkM RX4 51 yX4_halve := Or.inl (mem_TBL 389 (by decide +kernel) rfl)
theorem lo_X5_3 : Cond.methodLink RX5 3 Lib.objectInit ∈ TBL ∧ Cond.instanceMethod Lib.objectInit ∈ TBL ∧ Cond.code Lib.objectInit ⟨#[0xb1]⟩ 1 none ∈ TBL := ⟨mem_TBL 196 (by decide +kernel) rfl, mem_TBL 59 (by decide +kernel) rfl, mem_TBL 60 (by decide +kernel) rfl⟩
theorem ln_X5_9 : Cond.classLink RX5 9 RX6 ∈ TBL ∧ Cond.instantiable RX6 2 ∈ TBL ∧ Cond.initialized RX6 ∈ TBL := ⟨mem_TBL 197 (by decide +kernel) rfl, mem_TBL 92 (by decide +kernel) rfl, mem_TBL 44 (by decide +kernel) rfl⟩
theorem lm_X5_11 : LkM RX5 11 yX6_init := Or.inl (mem_TBL 198 (by decide +kernel) rfl)
theorem fl_X5_14 : FL RX5 14 5 0 RX5 TX5 4 tyX5 := ⟨cis_5, by decide, Or.inl (mem_TBL 199 (by decide +kernel) rfl)⟩
theorem ff_X5_14 : Cond.fieldLink RX5 14 RX5 (TX5 0).2.1 (TX5 0).2.2.1 ∈ TBL := mem_TBL 199 (by decide +kernel) rfl
theorem fl_X5_20 : FL RX5 20 5 1 RX5 TX5 4 tyX5 := ⟨cis_5, by decide, Or.inl (mem_TBL 201 (by decide +kernel) rfl)⟩
theorem ff_X5_20 : Cond.fieldLink RX5 20 RX5 (TX5 1).2.1 (TX5 1).2.2.1 ∈ TBL := mem_TBL 201 (by decide +kernel) rfl
theorem fl_X5_23 : FL RX5 23 5 2 RX5 TX5 4 tyX5 := ⟨cis_5, by decide, Or.inl (mem_TBL 203 (by decide +kernel) rfl)⟩
theorem ff_X5_23 : Cond.fieldLink RX5 23 RX5 (TX5 2).2.1 (TX5 2).2.2.1 ∈ TBL := mem_TBL 203 (by decide +kernel) rfl
theorem lm_X5_26 : LkM RX5 26 yX6_clear := Or.inl (mem_TBL 428 (by decide +kernel) rfl)
theorem fl_X5_29 : FL RX5 29 5 3 RX5 TX5 4 tyX5 := ⟨cis_5, by decide, Or.inl (mem_TBL 205 (by decide +kernel) rfl)⟩
theorem lm_X5_33 : LkM RX5 33 yX6_push := Or.inl (mem_TBL 463 (by decide +kernel) rfl)
theorem fl_X5_36 : FL RX5 36 6 1 RX6 TX6 2 tyX6 := ⟨cis_6, by decide, Or.inr ⟨"ContextCoder", List.mem_of_getElem? (i := 102) (by decide +kernel)⟩⟩
theorem lm_X5_39 : LkM RX5 39 yX6_item := Or.inl (mem_TBL 479 (by decide +kernel) rfl)
theorem lm_X5_43 : LkM RX5 43 yX8_intervalCost := Or.inr ⟨"ContextCoder", List.mem_of_getElem? (i := 480) (by decide +kernel)⟩
theorem lo_X6_1 : Cond.methodLink RX6 1 Lib.objectInit ∈ TBL ∧ Cond.instanceMethod Lib.objectInit ∈ TBL ∧ Cond.code Lib.objectInit ⟨#[0xb1]⟩ 1 none ∈ TBL := ⟨mem_TBL 96 (by decide +kernel) rfl, mem_TBL 59 (by decide +kernel) rfl, mem_TBL 60 (by decide +kernel) rfl⟩
theorem lj_X6_7 : Cond.methodLink RX6 7 Lib.Math.max.name ∈ TBL ∧ Cond.static Lib.Math.max.name ∈ TBL ∧ Cond.initialized "java/lang/Math" ∈ TBL ∧ Cond.code Lib.Math.max.name Lib.Math.max.code 2 (some .int) ∈ TBL := ⟨mem_TBL 97 (by decide +kernel) rfl, mem_TBL 98 (by decide +kernel) rfl, mem_TBL 45 (by decide +kernel) rfl, mem_TBL 99 (by decide +kernel) rfl⟩
theorem fl_X6_13 : FL RX6 13 6 0 RX6 TX6 2 tyX6 := ⟨cis_6, by decide, Or.inl (mem_TBL 100 (by decide +kernel) rfl)⟩
theorem ff_X6_13 : Cond.fieldLink RX6 13 RX6 (TX6 0).2.1 (TX6 0).2.2.1 ∈ TBL := mem_TBL 100 (by decide +kernel) rfl
theorem fl_X6_19 : FL RX6 19 6 1 RX6 TX6 2 tyX6 := ⟨cis_6, by decide, Or.inl (mem_TBL 101 (by decide +kernel) rfl)⟩
theorem lm_X6_23 : LkM RX6 23 yX6_has := Or.inl (mem_TBL 362 (by decide +kernel) rfl)
theorem lj_X6_27 : Cond.methodLink RX6 27 Lib.Math.min.name ∈ TBL ∧ Cond.static Lib.Math.min.name ∈ TBL ∧ Cond.initialized "java/lang/Math" ∈ TBL ∧ Cond.code Lib.Math.min.name Lib.Math.min.code 2 (some .int) ∈ TBL := ⟨mem_TBL 323 (by decide +kernel) rfl, mem_TBL 259 (by decide +kernel) rfl, mem_TBL 45 (by decide +kernel) rfl, mem_TBL 260 (by decide +kernel) rfl⟩
theorem lc_X6_30 : Cond.methodLink RX6 30 arraycopyName ∈ TBL ∧ Cond.native arraycopyName ∈ TBL ∧ Cond.static arraycopyName ∈ TBL ∧ Cond.initialized "java/lang/System" ∈ TBL := ⟨mem_TBL 324 (by decide +kernel) rfl, mem_TBL 318 (by decide +kernel) rfl, mem_TBL 317 (by decide +kernel) rfl, mem_TBL 52 (by decide +kernel) rfl⟩
theorem lm_X6_36 : LkM RX6 36 yX6_item := Or.inl (mem_TBL 634 (by decide +kernel) rfl)
theorem lo_X7_3 : Cond.methodLink RX7 3 Lib.objectInit ∈ TBL ∧ Cond.instanceMethod Lib.objectInit ∈ TBL ∧ Cond.code Lib.objectInit ⟨#[0xb1]⟩ 1 none ∈ TBL := ⟨mem_TBL 66 (by decide +kernel) rfl, mem_TBL 59 (by decide +kernel) rfl, mem_TBL 60 (by decide +kernel) rfl⟩
theorem ln_X7_9 : Cond.classLink RX7 9 RX4 ∈ TBL ∧ Cond.instantiable RX4 5 ∈ TBL ∧ Cond.initialized RX4 ∈ TBL := ⟨mem_TBL 67 (by decide +kernel) rfl, mem_TBL 68 (by decide +kernel) rfl, mem_TBL 43 (by decide +kernel) rfl⟩
theorem lm_X7_11 : LkM RX7 11 yX4_init := Or.inr ⟨"ContextCoder", List.mem_of_getElem? (i := 69) (by decide +kernel)⟩
theorem fl_X7_12 : FL RX7 12 7 4 RX7 TX7 8 tyX7 := ⟨cis_7, by decide, Or.inl (mem_TBL 148 (by decide +kernel) rfl)⟩
theorem ff_X7_12 : Cond.fieldLink RX7 12 RX7 (TX7 4).2.1 (TX7 4).2.2.1 ∈ TBL := mem_TBL 148 (by decide +kernel) rfl
theorem ln_X7_18 : Cond.classLink RX7 18 RX6 ∈ TBL ∧ Cond.instantiable RX6 2 ∈ TBL ∧ Cond.initialized RX6 ∈ TBL := ⟨mem_TBL 91 (by decide +kernel) rfl, mem_TBL 92 (by decide +kernel) rfl, mem_TBL 44 (by decide +kernel) rfl⟩
theorem lm_X7_20 : LkM RX7 20 yX6_init := Or.inl (mem_TBL 93 (by decide +kernel) rfl)
theorem fl_X7_23 : FL RX7 23 7 5 RX7 TX7 8 tyX7 := ⟨cis_7, by decide, Or.inl (mem_TBL 151 (by decide +kernel) rfl)⟩
theorem ff_X7_23 : Cond.fieldLink RX7 23 RX7 (TX7 5).2.1 (TX7 5).2.2.1 ∈ TBL := mem_TBL 151 (by decide +kernel) rfl
theorem ln_X7_27 : Cond.classLink RX7 27 RX3 ∈ TBL ∧ Cond.instantiable RX3 5 ∈ TBL ∧ Cond.initialized RX3 ∈ TBL := ⟨mem_TBL 110 (by decide +kernel) rfl, mem_TBL 111 (by decide +kernel) rfl, mem_TBL 46 (by decide +kernel) rfl⟩
theorem lm_X7_29 : LkM RX7 29 yX3_init := Or.inr ⟨"ContextCoder", List.mem_of_getElem? (i := 112) (by decide +kernel)⟩
theorem fl_X7_30 : FL RX7 30 7 6 RX7 TX7 8 tyX7 := ⟨cis_7, by decide, Or.inl (mem_TBL 153 (by decide +kernel) rfl)⟩
theorem ff_X7_30 : Cond.fieldLink RX7 30 RX7 (TX7 6).2.1 (TX7 6).2.2.1 ∈ TBL := mem_TBL 153 (by decide +kernel) rfl
theorem fl_X7_34 : FL RX7 34 7 7 RX7 TX7 8 tyX7 := ⟨cis_7, by decide, Or.inl (mem_TBL 155 (by decide +kernel) rfl)⟩
theorem ff_X7_34 : Cond.fieldLink RX7 34 RX7 (TX7 7).2.1 (TX7 7).2.2.1 ∈ TBL := mem_TBL 155 (by decide +kernel) rfl
theorem lm_X7_37 : LkM RX7 37 yX7_takeSettings := Or.inl (mem_TBL 306 (by decide +kernel) rfl)
theorem lm_X7_41 : LkM RX7 41 yX4_take := Or.inl (mem_TBL 310 (by decide +kernel) rfl)
theorem lm_X7_45 : LkM RX7 45 yX6_take := Or.inl (mem_TBL 319 (by decide +kernel) rfl)
theorem lm_X7_48 : LkM RX7 48 yX3_take := Or.inl (mem_TBL 325 (by decide +kernel) rfl)
theorem fl_X7_51 : FL RX7 51 7 0 RX7 TX7 8 tyX7 := ⟨cis_7, by decide, Or.inl (mem_TBL 140 (by decide +kernel) rfl)⟩
theorem fl_X7_55 : FL RX7 55 7 1 RX7 TX7 8 tyX7 := ⟨cis_7, by decide, Or.inl (mem_TBL 142 (by decide +kernel) rfl)⟩
theorem fl_X7_59 : FL RX7 59 7 2 RX7 TX7 8 tyX7 := ⟨cis_7, by decide, Or.inl (mem_TBL 145 (by decide +kernel) rfl)⟩
theorem fl_X7_62 : FL RX7 62 7 3 RX7 TX7 8 tyX7 := ⟨cis_7, by decide, Or.inl (mem_TBL 147 (by decide +kernel) rfl)⟩
theorem lm_X7_65 : LkM RX7 65 yX8_contextKey := Or.inr ⟨"ContextCoder", List.mem_of_getElem? (i := 370) (by decide +kernel)⟩
theorem lm_X7_69 : LkM RX7 69 yX4_meet := Or.inl (mem_TBL 373 (by decide +kernel) rfl)
theorem lm_X7_73 : LkM RX7 73 yX4_raise := Or.inl (mem_TBL 381 (by decide +kernel) rfl)
theorem lo_X8_3 : Cond.methodLink RX8 3 Lib.objectInit ∈ TBL ∧ Cond.instanceMethod Lib.objectInit ∈ TBL ∧ Cond.code Lib.objectInit ⟨#[0xb1]⟩ 1 none ∈ TBL := ⟨mem_TBL 58 (by decide +kernel) rfl, mem_TBL 59 (by decide +kernel) rfl, mem_TBL 60 (by decide +kernel) rfl⟩
theorem ln_X8_9 : Cond.classLink RX8 9 RX7 ∈ TBL ∧ Cond.instantiable RX7 8 ∈ TBL ∧ Cond.initialized RX7 ∈ TBL := ⟨mem_TBL 61 (by decide +kernel) rfl, mem_TBL 62 (by decide +kernel) rfl, mem_TBL 42 (by decide +kernel) rfl⟩
theorem lm_X8_11 : LkM RX8 11 yX7_init := Or.inr ⟨"ContextCoder", List.mem_of_getElem? (i := 63) (by decide +kernel)⟩
theorem fl_X8_12 : FL RX8 12 8 0 RX8 TX8 9 tyX8 := ⟨cis_8, by decide, Or.inl (mem_TBL 262 (by decide +kernel) rfl)⟩
theorem ff_X8_12 : Cond.fieldLink RX8 12 RX8 (TX8 0).2.1 (TX8 0).2.2.1 ∈ TBL := mem_TBL 262 (by decide +kernel) rfl
theorem fl_X8_16 : FL RX8 16 8 1 RX8 TX8 9 tyX8 := ⟨cis_8, by decide, Or.inl (mem_TBL 263 (by decide +kernel) rfl)⟩
theorem ff_X8_16 : Cond.fieldLink RX8 16 RX8 (TX8 1).2.1 (TX8 1).2.2.1 ∈ TBL := mem_TBL 263 (by decide +kernel) rfl
theorem la_X8_9 : Cond.classLink RX8 9 "ContextCoder$State" ∈ TBL := mem_TBL 61 (by decide +kernel) rfl
theorem fl_X8_19 : FL RX8 19 8 2 RX8 TX8 9 tyX8 := ⟨cis_8, by decide, Or.inl (mem_TBL 264 (by decide +kernel) rfl)⟩
theorem ff_X8_19 : Cond.fieldLink RX8 19 RX8 (TX8 2).2.1 (TX8 2).2.2.1 ∈ TBL := mem_TBL 264 (by decide +kernel) rfl
theorem fl_X8_23 : FL RX8 23 8 3 RX8 TX8 9 tyX8 := ⟨cis_8, by decide, Or.inl (mem_TBL 265 (by decide +kernel) rfl)⟩
theorem ln_X8_27 : Cond.classLink RX8 27 RX6 ∈ TBL ∧ Cond.instantiable RX6 2 ∈ TBL ∧ Cond.initialized RX6 ∈ TBL := ⟨mem_TBL 175 (by decide +kernel) rfl, mem_TBL 92 (by decide +kernel) rfl, mem_TBL 44 (by decide +kernel) rfl⟩
theorem lm_X8_29 : LkM RX8 29 yX6_init := Or.inl (mem_TBL 176 (by decide +kernel) rfl)
theorem fl_X8_32 : FL RX8 32 8 4 RX8 TX8 9 tyX8 := ⟨cis_8, by decide, Or.inl (mem_TBL 266 (by decide +kernel) rfl)⟩
theorem ff_X8_32 : Cond.fieldLink RX8 32 RX8 (TX8 4).2.1 (TX8 4).2.2.1 ∈ TBL := mem_TBL 266 (by decide +kernel) rfl
theorem ln_X8_36 : Cond.classLink RX8 36 RX0 ∈ TBL ∧ Cond.instantiable RX0 2 ∈ TBL ∧ Cond.initialized RX0 ∈ TBL := ⟨mem_TBL 177 (by decide +kernel) rfl, mem_TBL 178 (by decide +kernel) rfl, mem_TBL 47 (by decide +kernel) rfl⟩
theorem lm_X8_38 : LkM RX8 38 yX0_init := Or.inr ⟨"ContextCoder", List.mem_of_getElem? (i := 179) (by decide +kernel)⟩
theorem fl_X8_39 : FL RX8 39 8 5 RX8 TX8 9 tyX8 := ⟨cis_8, by decide, Or.inl (mem_TBL 267 (by decide +kernel) rfl)⟩
theorem ff_X8_39 : Cond.fieldLink RX8 39 RX8 (TX8 5).2.1 (TX8 5).2.2.1 ∈ TBL := mem_TBL 267 (by decide +kernel) rfl
theorem ln_X8_43 : Cond.classLink RX8 43 RX5 ∈ TBL ∧ Cond.instantiable RX5 4 ∈ TBL ∧ Cond.initialized RX5 ∈ TBL := ⟨mem_TBL 191 (by decide +kernel) rfl, mem_TBL 192 (by decide +kernel) rfl, mem_TBL 48 (by decide +kernel) rfl⟩
theorem lm_X8_45 : LkM RX8 45 yX5_init := Or.inr ⟨"ContextCoder", List.mem_of_getElem? (i := 193) (by decide +kernel)⟩
theorem fl_X8_46 : FL RX8 46 8 6 RX8 TX8 9 tyX8 := ⟨cis_8, by decide, Or.inl (mem_TBL 268 (by decide +kernel) rfl)⟩
theorem ff_X8_46 : Cond.fieldLink RX8 46 RX8 (TX8 6).2.1 (TX8 6).2.2.1 ∈ TBL := mem_TBL 268 (by decide +kernel) rfl
theorem ln_X8_50 : Cond.classLink RX8 50 RX2 ∈ TBL ∧ Cond.instantiable RX2 4 ∈ TBL ∧ Cond.initialized RX2 ∈ TBL := ⟨mem_TBL 216 (by decide +kernel) rfl, mem_TBL 217 (by decide +kernel) rfl, mem_TBL 49 (by decide +kernel) rfl⟩
theorem lm_X8_52 : LkM RX8 52 yX2_init := Or.inr ⟨"ContextCoder", List.mem_of_getElem? (i := 218) (by decide +kernel)⟩
theorem fl_X8_53 : FL RX8 53 8 7 RX8 TX8 9 tyX8 := ⟨cis_8, by decide, Or.inl (mem_TBL 269 (by decide +kernel) rfl)⟩
theorem ff_X8_53 : Cond.fieldLink RX8 53 RX8 (TX8 7).2.1 (TX8 7).2.2.1 ∈ TBL := mem_TBL 269 (by decide +kernel) rfl
theorem ln_X8_57 : Cond.classLink RX8 57 RX1 ∈ TBL ∧ Cond.instantiable RX1 4 ∈ TBL ∧ Cond.initialized RX1 ∈ TBL := ⟨mem_TBL 239 (by decide +kernel) rfl, mem_TBL 240 (by decide +kernel) rfl, mem_TBL 50 (by decide +kernel) rfl⟩
theorem lm_X8_59 : LkM RX8 59 yX1_init := Or.inr ⟨"ContextCoder", List.mem_of_getElem? (i := 241) (by decide +kernel)⟩
theorem fl_X8_60 : FL RX8 60 8 8 RX8 TX8 9 tyX8 := ⟨cis_8, by decide, Or.inl (mem_TBL 270 (by decide +kernel) rfl)⟩
theorem ff_X8_60 : Cond.fieldLink RX8 60 RX8 (TX8 8).2.1 (TX8 8).2.2.1 ∈ TBL := mem_TBL 270 (by decide +kernel) rfl
theorem lj_X8_64 : Cond.methodLink RX8 64 Lib.Math.min.name ∈ TBL ∧ Cond.static Lib.Math.min.name ∈ TBL ∧ Cond.initialized "java/lang/Math" ∈ TBL ∧ Cond.code Lib.Math.min.name Lib.Math.min.code 2 (some .int) ∈ TBL := ⟨mem_TBL 258 (by decide +kernel) rfl, mem_TBL 259 (by decide +kernel) rfl, mem_TBL 45 (by decide +kernel) rfl, mem_TBL 260 (by decide +kernel) rfl⟩
theorem lj_X8_70 : Cond.methodLink RX8 70 Lib.Math.max.name ∈ TBL ∧ Cond.static Lib.Math.max.name ∈ TBL ∧ Cond.initialized "java/lang/Math" ∈ TBL ∧ Cond.code Lib.Math.max.name Lib.Math.max.code 2 (some .int) ∈ TBL := ⟨mem_TBL 261 (by decide +kernel) rfl, mem_TBL 98 (by decide +kernel) rfl, mem_TBL 45 (by decide +kernel) rfl, mem_TBL 99 (by decide +kernel) rfl⟩
theorem fl_X8_73 : FL RX8 73 7 0 RX7 TX7 8 tyX7 := ⟨cis_7, by decide, Or.inr ⟨"ContextCoder", List.mem_of_getElem? (i := 139) (by decide +kernel)⟩⟩
theorem fl_X8_76 : FL RX8 76 7 2 RX7 TX7 8 tyX7 := ⟨cis_7, by decide, Or.inr ⟨"ContextCoder", List.mem_of_getElem? (i := 144) (by decide +kernel)⟩⟩
theorem fl_X8_79 : FL RX8 79 7 3 RX7 TX7 8 tyX7 := ⟨cis_7, by decide, Or.inr ⟨"ContextCoder", List.mem_of_getElem? (i := 146) (by decide +kernel)⟩⟩
theorem lm_X8_82 : LkM RX8 82 yX8_remember := Or.inl (mem_TBL 294 (by decide +kernel) rfl)
theorem fl_X8_85 : FL RX8 85 7 4 RX7 TX7 8 tyX7 := ⟨cis_7, by decide, Or.inl (mem_TBL 149 (by decide +kernel) rfl)⟩
theorem ff_X8_85 : Cond.fieldLink RX8 85 RX7 (TX7 4).2.1 (TX7 4).2.2.1 ∈ TBL := mem_TBL 149 (by decide +kernel) rfl
theorem lm_X8_89 : LkM RX8 89 yX4_clear := Or.inl (mem_TBL 330 (by decide +kernel) rfl)
theorem fl_X8_94 : FL RX8 94 7 1 RX7 TX7 8 tyX7 := ⟨cis_7, by decide, Or.inr ⟨"ContextCoder", List.mem_of_getElem? (i := 141) (by decide +kernel)⟩⟩
theorem lm_X8_98 : LkM RX8 98 yX8_contexts := Or.inl (mem_TBL 350 (by decide +kernel) rfl)
theorem fl_X8_102 : FL RX8 102 6 1 RX6 TX6 2 tyX6 := ⟨cis_6, by decide, Or.inr ⟨"ContextCoder", List.mem_of_getElem? (i := 104) (by decide +kernel)⟩⟩
theorem lm_X8_105 : LkM RX8 105 yX6_item := Or.inl (mem_TBL 358 (by decide +kernel) rfl)
theorem lm_X8_109 : LkM RX8 109 yX7_increase := Or.inl (mem_TBL 366 (by decide +kernel) rfl)
theorem fl_X8_113 : FL RX8 113 4 0 RX4 TX4 5 tyX4 := ⟨cis_4, by decide, Or.inr ⟨"ContextCoder", List.mem_of_getElem? (i := 74) (by decide +kernel)⟩⟩
theorem lm_X8_116 : LkM RX8 116 yX8_lastContext := Or.inl (mem_TBL 398 (by decide +kernel) rfl)
theorem lm_X8_119 : LkM RX8 119 yX4_countIn := Or.inl (mem_TBL 404 (by decide +kernel) rfl)
theorem lm_X8_122 : LkM RX8 122 yX4_weightOf := Or.inl (mem_TBL 412 (by decide +kernel) rfl)
theorem lm_X8_125 : LkM RX8 125 yX8_plan := Or.inl (mem_TBL 420 (by decide +kernel) rfl)
theorem lm_X8_129 : LkM RX8 129 yX5_sumOfCosts := Or.inl (mem_TBL 475 (by decide +kernel) rfl)
theorem lm_X8_132 : LkM RX8 132 yX8_price := Or.inl (mem_TBL 492 (by decide +kernel) rfl)
theorem lm_X8_135 : LkM RX8 135 yX6_push := Or.inl (mem_TBL 497 (by decide +kernel) rfl)
theorem lm_X8_138 : LkM RX8 138 yX6_drop := Or.inl (mem_TBL 502 (by decide +kernel) rfl)
theorem lm_X8_141 : LkM RX8 141 yX8_codeOnTrial := Or.inl (mem_TBL 510 (by decide +kernel) rfl)
theorem fl_X8_145 : FL RX8 145 2 2 RX2 TX2 4 tyX2 := ⟨cis_2, by decide, Or.inl (mem_TBL 227 (by decide +kernel) rfl)⟩
theorem ff_X8_145 : Cond.fieldLink RX8 145 RX2 (TX2 2).2.1 (TX2 2).2.2.1 ∈ TBL := mem_TBL 227 (by decide +kernel) rfl
theorem lm_X8_148 : LkM RX8 148 yX4_take := Or.inl (mem_TBL 515 (by decide +kernel) rfl)
theorem fl_X8_152 : FL RX8 152 7 6 RX7 TX7 8 tyX7 := ⟨cis_7, by decide, Or.inl (mem_TBL 154 (by decide +kernel) rfl)⟩
theorem ff_X8_152 : Cond.fieldLink RX8 152 RX7 (TX7 6).2.1 (TX7 6).2.2.1 ∈ TBL := mem_TBL 154 (by decide +kernel) rfl
theorem lm_X8_156 : LkM RX8 156 yX3_take := Or.inl (mem_TBL 571 (by decide +kernel) rfl)
theorem fl_X8_161 : FL RX8 161 7 5 RX7 TX7 8 tyX7 := ⟨cis_7, by decide, Or.inl (mem_TBL 152 (by decide +kernel) rfl)⟩
theorem ff_X8_161 : Cond.fieldLink RX8 161 RX7 (TX7 5).2.1 (TX7 5).2.2.1 ∈ TBL := mem_TBL 152 (by decide +kernel) rfl
theorem lm_X8_164 : LkM RX8 164 yX6_take := Or.inl (mem_TBL 572 (by decide +kernel) rfl)
theorem lm_X8_166 : LkM RX8 166 yX6_has := Or.inl (mem_TBL 581 (by decide +kernel) rfl)
theorem fl_X8_170 : FL RX8 170 3 4 RX3 TX3 5 tyX3 := ⟨cis_3, by decide, Or.inr ⟨"ContextCoder", List.mem_of_getElem? (i := 127) (by decide +kernel)⟩⟩
theorem lm_X8_173 : LkM RX8 173 yX8_readOnTrial := Or.inl (mem_TBL 590 (by decide +kernel) rfl)
theorem fl_X8_176 : FL RX8 176 7 7 RX7 TX7 8 tyX7 := ⟨cis_7, by decide, Or.inl (mem_TBL 156 (by decide +kernel) rfl)⟩
theorem ff_X8_176 : Cond.fieldLink RX8 176 RX7 (TX7 7).2.1 (TX7 7).2.2.1 ∈ TBL := mem_TBL 156 (by decide +kernel) rfl
theorem lm_X8_179 : LkM RX8 179 yX6_same := Or.inl (mem_TBL 630 (by decide +kernel) rfl)
theorem lm_X8_183 : LkM RX8 183 yX6_put := Or.inl (mem_TBL 643 (by decide +kernel) rfl)
theorem fl_X8_187 : FL RX8 187 3 3 RX3 TX3 5 tyX3 := ⟨cis_3, by decide, Or.inl (mem_TBL 125 (by decide +kernel) rfl)⟩
theorem ff_X8_187 : Cond.fieldLink RX8 187 RX3 (TX3 3).2.1 (TX3 3).2.2.1 ∈ TBL := mem_TBL 125 (by decide +kernel) rfl
theorem fl_X8_190 : FL RX8 190 3 0 RX3 TX3 5 tyX3 := ⟨cis_3, by decide, Or.inl (mem_TBL 119 (by decide +kernel) rfl)⟩
theorem ff_X8_190 : Cond.fieldLink RX8 190 RX3 (TX3 0).2.1 (TX3 0).2.2.1 ∈ TBL := mem_TBL 119 (by decide +kernel) rfl
theorem fl_X8_193 : FL RX8 193 3 1 RX3 TX3 5 tyX3 := ⟨cis_3, by decide, Or.inl (mem_TBL 121 (by decide +kernel) rfl)⟩
theorem ff_X8_193 : Cond.fieldLink RX8 193 RX3 (TX3 1).2.1 (TX3 1).2.2.1 ∈ TBL := mem_TBL 121 (by decide +kernel) rfl
theorem fl_X8_196 : FL RX8 196 3 2 RX3 TX3 5 tyX3 := ⟨cis_3, by decide, Or.inl (mem_TBL 123 (by decide +kernel) rfl)⟩
theorem ff_X8_196 : Cond.fieldLink RX8 196 RX3 (TX3 2).2.1 (TX3 2).2.2.1 ∈ TBL := mem_TBL 123 (by decide +kernel) rfl
theorem kc_X8_199 : Cond.constant RX8 199 (1000000 : Int32) ∈ TBL := mem_TBL 668 (by decide +kernel) rfl
theorem lm_X8_200 : LkM RX8 200 yX8_intervalCost := Or.inl (mem_TBL 669 (by decide +kernel) rfl)
theorem lm_X8_203 : LkM RX8 203 yX7_take := Or.inl (mem_TBL 302 (by decide +kernel) rfl)
theorem kc_X8_206 : Cond.constantLong RX8 206 (67 : Int64) ∈ TBL := mem_TBL 678 (by decide +kernel) rfl
theorem kc_X8_208 : Cond.constantLong RX8 208 (31 : Int64) ∈ TBL := mem_TBL 679 (by decide +kernel) rfl
theorem lm_X8_210 : LkM RX8 210 yX8_bytes := Or.inl (mem_TBL 680 (by decide +kernel) rfl)
theorem lm_X8_213 : LkM RX8 213 yX8_coded := Or.inl (mem_TBL 681 (by decide +kernel) rfl)
theorem lm_X8_216 : LkM RX8 216 yX8_cost := Or.inl (mem_TBL 682 (by decide +kernel) rfl)
theorem kc_X8_219 : Cond.constantLong RX8 219 (32 : Int64) ∈ TBL := mem_TBL 683 (by decide +kernel) rfl
theorem lm_X8_221 : LkM RX8 221 yX8_rollPast := Or.inl (mem_TBL 298 (by decide +kernel) rfl)
theorem lm_X8_224 : LkM RX8 224 yX8_contextKey := Or.inl (mem_TBL 402 (by decide +kernel) rfl)
theorem lm_X8_228 : LkM RX8 228 yX4_find := Or.inl (mem_TBL 403 (by decide +kernel) rfl)
theorem lm_X8_231 : LkM RX8 231 yX7_takeSettings := Or.inl (mem_TBL 514 (by decide +kernel) rfl)
theorem lm_X8_234 : LkM RX8 234 yX3_clear := Or.inl (mem_TBL 516 (by decide +kernel) rfl)
theorem lm_X8_235 : LkM RX8 235 yX2_begin := Or.inl (mem_TBL 521 (by decide +kernel) rfl)
theorem lm_X8_238 : LkM RX8 238 yX8_codeSymbol := Or.inl (mem_TBL 527 (by decide +kernel) rfl)
theorem lm_X8_241 : LkM RX8 241 yX8_checkNumber := Or.inl (mem_TBL 557 (by decide +kernel) rfl)
theorem kc_X8_245 : Cond.constant RX8 245 (65536 : Int32) ∈ TBL := mem_TBL 486 (by decide +kernel) rfl
theorem lm_X8_246 : LkM RX8 246 yX2_interval := Or.inl (mem_TBL 535 (by decide +kernel) rfl)
theorem lm_X8_250 : LkM RX8 250 yX2_finish := Or.inl (mem_TBL 561 (by decide +kernel) rfl)
theorem fl_X8_253 : FL RX8 253 2 3 RX2 TX2 4 tyX2 := ⟨cis_2, by decide, Or.inr ⟨"ContextCoder", List.mem_of_getElem? (i := 229) (by decide +kernel)⟩⟩
theorem lm_X8_254 : LkM RX8 254 yX5_size := Or.inl (mem_TBL 531 (by decide +kernel) rfl)
theorem fl_X8_256 : FL RX8 256 5 0 RX5 TX5 4 tyX5 := ⟨cis_5, by decide, Or.inl (mem_TBL 200 (by decide +kernel) rfl)⟩
theorem ff_X8_256 : Cond.fieldLink RX8 256 RX5 (TX5 0).2.1 (TX5 0).2.2.1 ∈ TBL := mem_TBL 200 (by decide +kernel) rfl
theorem fl_X8_259 : FL RX8 259 5 1 RX5 TX5 4 tyX5 := ⟨cis_5, by decide, Or.inl (mem_TBL 202 (by decide +kernel) rfl)⟩
theorem ff_X8_259 : Cond.fieldLink RX8 259 RX5 (TX5 1).2.1 (TX5 1).2.2.1 ∈ TBL := mem_TBL 202 (by decide +kernel) rfl
theorem fl_X8_262 : FL RX8 262 5 2 RX5 TX5 4 tyX5 := ⟨cis_5, by decide, Or.inl (mem_TBL 204 (by decide +kernel) rfl)⟩
theorem ff_X8_262 : Cond.fieldLink RX8 262 RX5 (TX5 2).2.1 (TX5 2).2.2.1 ∈ TBL := mem_TBL 204 (by decide +kernel) rfl
theorem fl_X8_265 : FL RX8 265 5 3 RX5 TX5 4 tyX5 := ⟨cis_5, by decide, Or.inr ⟨"ContextCoder", List.mem_of_getElem? (i := 206) (by decide +kernel)⟩⟩
theorem lm_X8_266 : LkM RX8 266 yX3_add := Or.inl (mem_TBL 552 (by decide +kernel) rfl)
theorem lm_X8_270 : LkM RX8 270 yX5_clear := Or.inl (mem_TBL 424 (by decide +kernel) rfl)
theorem lm_X8_271 : LkM RX8 271 yX0_restart := Or.inl (mem_TBL 432 (by decide +kernel) rfl)
theorem lm_X8_274 : LkM RX8 274 yX0_sum := Or.inl (mem_TBL 436 (by decide +kernel) rfl)
theorem lm_X8_278 : LkM RX8 278 yX4_knownIn := Or.inl (mem_TBL 450 (by decide +kernel) rfl)
theorem lm_X8_281 : LkM RX8 281 yX0_holds := Or.inl (mem_TBL 454 (by decide +kernel) rfl)
theorem lm_X8_285 : LkM RX8 285 yX0_sumBelow := Or.inl (mem_TBL 458 (by decide +kernel) rfl)
theorem lm_X8_289 : LkM RX8 289 yX5_add := Or.inl (mem_TBL 459 (by decide +kernel) rfl)
theorem lm_X8_291 : LkM RX8 291 yX0_leave := Or.inl (mem_TBL 467 (by decide +kernel) rfl)
theorem lm_X8_295 : LkM RX8 295 yX0_remainingBelow := Or.inl (mem_TBL 471 (by decide +kernel) rfl)
theorem lm_X8_298 : LkM RX8 298 yX6_clear := Or.inl (mem_TBL 594 (by decide +kernel) rfl)
theorem lm_X8_299 : LkM RX8 299 yX1_begin := Or.inl (mem_TBL 595 (by decide +kernel) rfl)
theorem lm_X8_301 : LkM RX8 301 yX8_readSymbol := Or.inl (mem_TBL 606 (by decide +kernel) rfl)
theorem lm_X8_305 : LkM RX8 305 yX1_number := Or.inl (mem_TBL 610 (by decide +kernel) rfl)
theorem lm_X8_308 : LkM RX8 308 yX0_symbolAt := Or.inl (mem_TBL 617 (by decide +kernel) rfl)
theorem lm_X8_311 : LkM RX8 311 yX1_interval := Or.inl (mem_TBL 621 (by decide +kernel) rfl)
theorem lm_X8_312 : LkM RX8 312 yX0_remainingAt := Or.inl (mem_TBL 626 (by decide +kernel) rfl)
theorem kc_X8_315 : Cond.constant RX8 315 (65521 : Int32) ∈ TBL := mem_TBL 560 (by decide +kernel) rfl
theorem lm_X8_316 : LkM RX8 316 yX8_logarithm := Or.inl (mem_TBL 483 (by decide +kernel) rfl)
theorem kc_X8_319 : Cond.constantLong RX8 319 (2147483648 : Int64) ∈ TBL := mem_TBL 487 (by decide +kernel) rfl
theorem lo_X9_1 : Cond.methodLink RX9 1 Lib.objectInit ∈ TBL ∧ Cond.instanceMethod Lib.objectInit ∈ TBL ∧ Cond.code Lib.objectInit ⟨#[0xb1]⟩ 1 none ∈ TBL := ⟨mem_TBL 692 (by decide +kernel) rfl, mem_TBL 59 (by decide +kernel) rfl, mem_TBL 60 (by decide +kernel) rfl⟩
theorem fl_X9_7 : FL RX9 7 9 0 RX9 TX9 22 tyX9 := ⟨cis_9, by decide, Or.inl (mem_TBL 694 (by decide +kernel) rfl)⟩
theorem ff_X9_7 : Cond.fieldLink RX9 7 RX9 (TX9 0).2.1 (TX9 0).2.2.1 ∈ TBL := mem_TBL 694 (by decide +kernel) rfl
theorem fl_X9_13 : FL RX9 13 9 1 RX9 TX9 22 tyX9 := ⟨cis_9, by decide, Or.inl (mem_TBL 695 (by decide +kernel) rfl)⟩
theorem ff_X9_13 : Cond.fieldLink RX9 13 RX9 (TX9 1).2.1 (TX9 1).2.2.1 ∈ TBL := mem_TBL 695 (by decide +kernel) rfl
theorem kc_X9_16 : Cond.constant RX9 16 (102800 : Int32) ∈ TBL := mem_TBL 693 (by decide +kernel) rfl
theorem fl_X9_17 : FL RX9 17 9 2 RX9 TX9 22 tyX9 := ⟨cis_9, by decide, Or.inl (mem_TBL 696 (by decide +kernel) rfl)⟩
theorem ff_X9_17 : Cond.fieldLink RX9 17 RX9 (TX9 2).2.1 (TX9 2).2.2.1 ∈ TBL := mem_TBL 696 (by decide +kernel) rfl
theorem fl_X9_20 : FL RX9 20 9 4 RX9 TX9 22 tyX9 := ⟨cis_9, by decide, Or.inl (mem_TBL 698 (by decide +kernel) rfl)⟩
theorem ff_X9_20 : Cond.fieldLink RX9 20 RX9 (TX9 4).2.1 (TX9 4).2.2.1 ∈ TBL := mem_TBL 698 (by decide +kernel) rfl
theorem fl_X9_23 : FL RX9 23 9 8 RX9 TX9 22 tyX9 := ⟨cis_9, by decide, Or.inl (mem_TBL 702 (by decide +kernel) rfl)⟩
theorem ff_X9_23 : Cond.fieldLink RX9 23 RX9 (TX9 8).2.1 (TX9 8).2.2.1 ∈ TBL := mem_TBL 702 (by decide +kernel) rfl
theorem fl_X9_26 : FL RX9 26 9 11 RX9 TX9 22 tyX9 := ⟨cis_9, by decide, Or.inl (mem_TBL 705 (by decide +kernel) rfl)⟩
theorem ff_X9_26 : Cond.fieldLink RX9 26 RX9 (TX9 11).2.1 (TX9 11).2.2.1 ∈ TBL := mem_TBL 705 (by decide +kernel) rfl
theorem fl_X9_30 : FL RX9 30 9 16 RX9 TX9 22 tyX9 := ⟨cis_9, by decide, Or.inl (mem_TBL 710 (by decide +kernel) rfl)⟩
theorem ff_X9_30 : Cond.fieldLink RX9 30 RX9 (TX9 16).2.1 (TX9 16).2.2.1 ∈ TBL := mem_TBL 710 (by decide +kernel) rfl
theorem fl_X9_33 : FL RX9 33 9 20 RX9 TX9 22 tyX9 := ⟨cis_9, by decide, Or.inl (mem_TBL 714 (by decide +kernel) rfl)⟩
theorem ff_X9_33 : Cond.fieldLink RX9 33 RX9 (TX9 20).2.1 (TX9 20).2.2.1 ∈ TBL := mem_TBL 714 (by decide +kernel) rfl
theorem fl_X9_36 : FL RX9 36 9 3 RX9 TX9 22 tyX9 := ⟨cis_9, by decide, Or.inl (mem_TBL 697 (by decide +kernel) rfl)⟩
theorem kc_X9_40 : Cond.constant RX9 40 (77100 : Int32) ∈ TBL := mem_TBL 776 (by decide +kernel) rfl
theorem lm_X9_41 : LkM RX9 41 yX9_keeps := Or.inl (mem_TBL 772 (by decide +kernel) rfl)
theorem lm_X9_45 : LkM RX9 45 yX9_keyOf := Or.inl (mem_TBL 813 (by decide +kernel) rfl)
theorem lm_X9_49 : LkM RX9 49 yX9_countAt := Or.inl (mem_TBL 824 (by decide +kernel) rfl)
theorem lm_X9_53 : LkM RX9 53 yX9_weightOf := Or.inl (mem_TBL 820 (by decide +kernel) rfl)
theorem lm_X9_57 : LkM RX9 57 yX9_find := Or.inl (mem_TBL 809 (by decide +kernel) rfl)
theorem lm_X9_60 : LkM RX9 60 yX9_counts := Or.inl (mem_TBL 816 (by decide +kernel) rfl)
theorem fl_X9_64 : FL RX9 64 9 6 RX9 TX9 22 tyX9 := ⟨cis_9, by decide, Or.inl (mem_TBL 700 (by decide +kernel) rfl)⟩
theorem kc_X9_68 : Cond.constantLong RX9 68 (4294967296 : Int64) ∈ TBL := mem_TBL 878 (by decide +kernel) rfl
theorem fl_X9_70 : FL RX9 70 9 7 RX9 TX9 22 tyX9 := ⟨cis_9, by decide, Or.inl (mem_TBL 701 (by decide +kernel) rfl)⟩
theorem fl_X9_73 : FL RX9 73 9 9 RX9 TX9 22 tyX9 := ⟨cis_9, by decide, Or.inl (mem_TBL 703 (by decide +kernel) rfl)⟩
theorem fl_X9_76 : FL RX9 76 9 10 RX9 TX9 22 tyX9 := ⟨cis_9, by decide, Or.inl (mem_TBL 704 (by decide +kernel) rfl)⟩
theorem lm_X9_79 : LkM RX9 79 yX9_carries := Or.inl (mem_TBL 879 (by decide +kernel) rfl)
theorem kc_X9_82 : Cond.constantLong RX9 82 (16777216 : Int64) ∈ TBL := mem_TBL 883 (by decide +kernel) rfl
theorem kc_X9_84 : Cond.constantLong RX9 84 (256 : Int64) ∈ TBL := mem_TBL 884 (by decide +kernel) rfl
theorem kc_X9_86 : Cond.constantLong RX9 86 (255 : Int64) ∈ TBL := mem_TBL 925 (by decide +kernel) rfl
theorem kc_X9_88 : Cond.constant RX9 88 (65536 : Int32) ∈ TBL := mem_TBL 871 (by decide +kernel) rfl
theorem kc_X9_89 : Cond.constantLong RX9 89 (2147483648 : Int64) ∈ TBL := mem_TBL 872 (by decide +kernel) rfl
theorem kc_X9_91 : Cond.constantLong RX9 91 (2 : Int64) ∈ TBL := mem_TBL 873 (by decide +kernel) rfl
theorem fl_X9_93 : FL RX9 93 9 12 RX9 TX9 22 tyX9 := ⟨cis_9, by decide, Or.inl (mem_TBL 706 (by decide +kernel) rfl)⟩
theorem lm_X9_96 : LkM RX9 96 yX9_log := Or.inl (mem_TBL 868 (by decide +kernel) rfl)
theorem fl_X9_99 : FL RX9 99 9 15 RX9 TX9 22 tyX9 := ⟨cis_9, by decide, Or.inl (mem_TBL 709 (by decide +kernel) rfl)⟩
theorem lm_X9_103 : LkM RX9 103 yX9_writes := Or.inl (mem_TBL 874 (by decide +kernel) rfl)
theorem fl_X9_107 : FL RX9 107 9 13 RX9 TX9 22 tyX9 := ⟨cis_9, by decide, Or.inl (mem_TBL 707 (by decide +kernel) rfl)⟩
theorem fl_X9_110 : FL RX9 110 9 14 RX9 TX9 22 tyX9 := ⟨cis_9, by decide, Or.inl (mem_TBL 708 (by decide +kernel) rfl)⟩
theorem lm_X9_113 : LkM RX9 113 yX9_clears := Or.inl (mem_TBL 852 (by decide +kernel) rfl)
theorem lm_X9_116 : LkM RX9 116 yX9_below := Or.inl (mem_TBL 856 (by decide +kernel) rfl)
theorem lm_X9_119 : LkM RX9 119 yX9_known := Or.inl (mem_TBL 860 (by decide +kernel) rfl)
theorem lm_X9_122 : LkM RX9 122 yX9_interval := Or.inl (mem_TBL 864 (by decide +kernel) rfl)
theorem lm_X9_126 : LkM RX9 126 yX9_excludes := Or.inl (mem_TBL 885 (by decide +kernel) rfl)
theorem lm_X9_130 : LkM RX9 130 yX9_in := Or.inl (mem_TBL 765 (by decide +kernel) rfl)
theorem lm_X9_134 : LkM RX9 134 yX9_sets := Or.inl (mem_TBL 768 (by decide +kernel) rfl)
theorem lm_X9_137 : LkM RX9 137 yX9_empties := Or.inl (mem_TBL 777 (by decide +kernel) rfl)
theorem fl_X9_140 : FL RX9 140 9 5 RX9 TX9 22 tyX9 := ⟨cis_9, by decide, Or.inl (mem_TBL 699 (by decide +kernel) rfl)⟩
theorem lm_X9_143 : LkM RX9 143 yX9_symbolAt := Or.inl (mem_TBL 801 (by decide +kernel) rfl)
theorem lm_X9_146 : LkM RX9 146 yX9_learns := Or.inl (mem_TBL 805 (by decide +kernel) rfl)
theorem lm_X9_150 : LkM RX9 150 yX9_codes := Or.inl (mem_TBL 848 (by decide +kernel) rfl)
theorem lm_X9_153 : LkM RX9 153 yX9_priceOf := Or.inl (mem_TBL 844 (by decide +kernel) rfl)
theorem kc_X9_156 : Cond.constant RX9 156 (65521 : Int32) ∈ TBL := mem_TBL 919 (by decide +kernel) rfl
theorem lm_X9_157 : LkM RX9 157 yX9_starts := Or.inl (mem_TBL 912 (by decide +kernel) rfl)
theorem fl_X9_160 : FL RX9 160 9 17 RX9 TX9 22 tyX9 := ⟨cis_9, by decide, Or.inl (mem_TBL 711 (by decide +kernel) rfl)⟩
theorem lm_X9_163 : LkM RX9 163 yX9_checkOf := Or.inl (mem_TBL 916 (by decide +kernel) rfl)
theorem kc_X9_167 : Cond.constantLong RX9 167 (65536 : Int64) ∈ TBL := mem_TBL 920 (by decide +kernel) rfl
theorem lm_X9_169 : LkM RX9 169 yX9_finishes := Or.inl (mem_TBL 921 (by decide +kernel) rfl)
theorem lm_X9_172 : LkM RX9 172 yX9_copies := Or.inl (mem_TBL 905 (by decide +kernel) rfl)
theorem lm_X9_176 : LkM RX9 176 yX9_codesAll := Or.inl (mem_TBL 908 (by decide +kernel) rfl)
theorem fl_X9_180 : FL RX9 180 9 19 RX9 TX9 22 tyX9 := ⟨cis_9, by decide, Or.inl (mem_TBL 713 (by decide +kernel) rfl)⟩
theorem fl_X9_183 : FL RX9 183 9 18 RX9 TX9 22 tyX9 := ⟨cis_9, by decide, Or.inl (mem_TBL 712 (by decide +kernel) rfl)⟩
theorem lm_X9_186 : LkM RX9 186 yX9_nextByte := Or.inl (mem_TBL 946 (by decide +kernel) rfl)
theorem lm_X9_190 : LkM RX9 190 yX9_target := Or.inl (mem_TBL 954 (by decide +kernel) rfl)
theorem lm_X9_193 : LkM RX9 193 yX9_reads := Or.inl (mem_TBL 958 (by decide +kernel) rfl)
theorem fl_X9_196 : FL RX9 196 9 21 RX9 TX9 22 tyX9 := ⟨cis_9, by decide, Or.inl (mem_TBL 715 (by decide +kernel) rfl)⟩
theorem lm_X9_199 : LkM RX9 199 yX9_decodes := Or.inl (mem_TBL 950 (by decide +kernel) rfl)
theorem lm_X9_202 : LkM RX9 202 yX9_decodesAll := Or.inl (mem_TBL 942 (by decide +kernel) rfl)
theorem lm_X9_205 : LkM RX9 205 yX9_isCode := Or.inl (mem_TBL 962 (by decide +kernel) rfl)
theorem kc_X9_209 : Cond.constant RX9 209 (1000000 : Int32) ∈ TBL := mem_TBL 998 (by decide +kernel) rfl
theorem kc_X9_210 : Cond.constantLong RX9 210 (67 : Int64) ∈ TBL := mem_TBL 1007 (by decide +kernel) rfl
theorem kc_X9_212 : Cond.constantLong RX9 212 (31 : Int64) ∈ TBL := mem_TBL 1008 (by decide +kernel) rfl
theorem ln_L_7 : Cond.classLink RL 7 RX8 ∈ TBL ∧ Cond.instantiable RX8 9 ∈ TBL ∧ Cond.initialized RX8 ∈ TBL := ⟨mem_TBL 53 (by decide +kernel) rfl, mem_TBL 54 (by decide +kernel) rfl, mem_TBL 41 (by decide +kernel) rfl⟩
theorem lm_L_9 : LkM RL 9 yL_cell := Or.inl (mem_TBL 684 (by decide +kernel) rfl)
theorem lm_L_15 : LkM RL 15 yX8_init := Or.inl (mem_TBL 55 (by decide +kernel) rfl)
theorem ln_L_18 : Cond.classLink RL 18 RX9 ∈ TBL ∧ Cond.instantiable RX9 22 ∈ TBL ∧ Cond.initialized RX9 ∈ TBL := ⟨mem_TBL 687 (by decide +kernel) rfl, mem_TBL 688 (by decide +kernel) rfl, mem_TBL 51 (by decide +kernel) rfl⟩
theorem lm_L_20 : LkM RL 20 yX9_init := Or.inl (mem_TBL 689 (by decide +kernel) rfl)
theorem lm_L_21 : LkM RL 21 yX8_setOrder := Or.inl (mem_TBL 290 (by decide +kernel) rfl)
theorem lm_L_25 : LkM RL 25 yX9_setOrder := Or.inl (mem_TBL 761 (by decide +kernel) rfl)
theorem lm_L_26 : LkM RL 26 yX8_setExclusion := Or.inl (mem_TBL 334 (by decide +kernel) rfl)
theorem lm_L_30 : LkM RL 30 yX9_setExclusion := Or.inl (mem_TBL 781 (by decide +kernel) rfl)
theorem lm_L_31 : LkM RL 31 yX8_setStep := Or.inl (mem_TBL 338 (by decide +kernel) rfl)
theorem lm_L_34 : LkM RL 34 yX9_setStep := Or.inl (mem_TBL 785 (by decide +kernel) rfl)
theorem lm_L_35 : LkM RL 35 yX8_setLimit := Or.inl (mem_TBL 342 (by decide +kernel) rfl)
theorem lm_L_38 : LkM RL 38 yX9_setLimit := Or.inl (mem_TBL 789 (by decide +kernel) rfl)
theorem lm_L_39 : LkM RL 39 yX8_forget := Or.inl (mem_TBL 346 (by decide +kernel) rfl)
theorem lm_L_43 : LkM RL 43 yX9_forget := Or.inl (mem_TBL 793 (by decide +kernel) rfl)
theorem lm_L_44 : LkM RL 44 yX8_learn := Or.inl (mem_TBL 354 (by decide +kernel) rfl)
theorem lm_L_47 : LkM RL 47 yX9_learn := Or.inl (mem_TBL 797 (by decide +kernel) rfl)
theorem lm_L_48 : LkM RL 48 yX8_contexts := Or.inl (mem_TBL 393 (by decide +kernel) rfl)
theorem lm_L_51 : LkM RL 51 yX9_contexts := Or.inl (mem_TBL 828 (by decide +kernel) rfl)
theorem lm_L_52 : LkM RL 52 yX8_count := Or.inl (mem_TBL 394 (by decide +kernel) rfl)
theorem lm_L_56 : LkM RL 56 yX9_count := Or.inl (mem_TBL 832 (by decide +kernel) rfl)
theorem lm_L_57 : LkM RL 57 yX8_weight := Or.inl (mem_TBL 408 (by decide +kernel) rfl)
theorem lm_L_60 : LkM RL 60 yX9_weight := Or.inl (mem_TBL 836 (by decide +kernel) rfl)
theorem lm_L_61 : LkM RL 61 yX8_price := Or.inl (mem_TBL 416 (by decide +kernel) rfl)
theorem lm_L_64 : LkM RL 64 yX9_price := Or.inl (mem_TBL 840 (by decide +kernel) rfl)
theorem lm_L_65 : LkM RL 65 yX8_guess := Or.inl (mem_TBL 488 (by decide +kernel) rfl)
theorem lm_L_68 : LkM RL 68 yX9_guess := Or.inl (mem_TBL 889 (by decide +kernel) rfl)
theorem lm_L_69 : LkM RL 69 yX8_type := Or.inl (mem_TBL 493 (by decide +kernel) rfl)
theorem lm_L_72 : LkM RL 72 yX9_type := Or.inl (mem_TBL 893 (by decide +kernel) rfl)
theorem lm_L_73 : LkM RL 73 yX8_remove := Or.inl (mem_TBL 498 (by decide +kernel) rfl)
theorem lm_L_76 : LkM RL 76 yX9_remove := Or.inl (mem_TBL 897 (by decide +kernel) rfl)
theorem lm_L_77 : LkM RL 77 yX8_encode := Or.inl (mem_TBL 506 (by decide +kernel) rfl)
theorem lm_L_80 : LkM RL 80 yX9_encode := Or.inl (mem_TBL 901 (by decide +kernel) rfl)
theorem lm_L_81 : LkM RL 81 yX8_bytes := Or.inl (mem_TBL 573 (by decide +kernel) rfl)
theorem lm_L_84 : LkM RL 84 yX9_bytes := Or.inl (mem_TBL 926 (by decide +kernel) rfl)
theorem lm_L_85 : LkM RL 85 yX8_codeByte := Or.inl (mem_TBL 577 (by decide +kernel) rfl)
theorem lm_L_88 : LkM RL 88 yX9_codeByte := Or.inl (mem_TBL 930 (by decide +kernel) rfl)
theorem lm_L_89 : LkM RL 89 yX8_longestCarry := Or.inl (mem_TBL 582 (by decide +kernel) rfl)
theorem lm_L_92 : LkM RL 92 yX9_longestCarry := Or.inl (mem_TBL 934 (by decide +kernel) rfl)
theorem lm_L_93 : LkM RL 93 yX8_decode := Or.inl (mem_TBL 586 (by decide +kernel) rfl)
theorem lm_L_96 : LkM RL 96 yX9_decode := Or.inl (mem_TBL 938 (by decide +kernel) rfl)
theorem lm_L_97 : LkM RL 97 yX8_decoded := Or.inl (mem_TBL 635 (by decide +kernel) rfl)
theorem lm_L_100 : LkM RL 100 yX9_decoded := Or.inl (mem_TBL 966 (by decide +kernel) rfl)
theorem lm_L_101 : LkM RL 101 yX8_flip := Or.inl (mem_TBL 639 (by decide +kernel) rfl)
theorem lm_L_104 : LkM RL 104 yX9_flip := Or.inl (mem_TBL 970 (by decide +kernel) rfl)
theorem lm_L_105 : LkM RL 105 yX8_cut := Or.inl (mem_TBL 644 (by decide +kernel) rfl)
theorem lm_L_108 : LkM RL 108 yX9_cut := Or.inl (mem_TBL 974 (by decide +kernel) rfl)
theorem lm_L_109 : LkM RL 109 yX8_append := Or.inl (mem_TBL 648 (by decide +kernel) rfl)
theorem lm_L_112 : LkM RL 112 yX9_append := Or.inl (mem_TBL 978 (by decide +kernel) rfl)
theorem lm_L_113 : LkM RL 113 yX8_coded := Or.inl (mem_TBL 652 (by decide +kernel) rfl)
theorem lm_L_116 : LkM RL 116 yX9_coded := Or.inl (mem_TBL 982 (by decide +kernel) rfl)
theorem lm_L_117 : LkM RL 117 yX8_account := Or.inl (mem_TBL 656 (by decide +kernel) rfl)
theorem lm_L_120 : LkM RL 120 yX9_account := Or.inl (mem_TBL 986 (by decide +kernel) rfl)
theorem lm_L_121 : LkM RL 121 yX8_cost := Or.inl (mem_TBL 660 (by decide +kernel) rfl)
theorem lm_L_124 : LkM RL 124 yX9_cost := Or.inl (mem_TBL 990 (by decide +kernel) rfl)
theorem lm_L_125 : LkM RL 125 yX8_lg := Or.inl (mem_TBL 664 (by decide +kernel) rfl)
theorem lm_L_128 : LkM RL 128 yX9_lg := Or.inl (mem_TBL 994 (by decide +kernel) rfl)
theorem lm_L_129 : LkM RL 129 yX8_undo := Or.inl (mem_TBL 670 (by decide +kernel) rfl)
theorem lm_L_132 : LkM RL 132 yX9_undo := Or.inl (mem_TBL 999 (by decide +kernel) rfl)
theorem lm_L_133 : LkM RL 133 yX8_fingerprint := Or.inl (mem_TBL 674 (by decide +kernel) rfl)
theorem lm_L_137 : LkM RL 137 yX9_fingerprint := Or.inl (mem_TBL 1003 (by decide +kernel) rfl)
theorem ac_int : Cond.arrayClass (newarray.typeOf .int) ∈ TBL := mem_TBL 90 (by decide +kernel) rfl
theorem ac_boolean : Cond.arrayClass (newarray.typeOf .boolean) ∈ TBL := mem_TBL 190 (by decide +kernel) rfl
end
section
/-! numbers: an int as iZ of an Int, a long as lZ of an Int; the rules over them -/
def iZ (a : Int) : Int32 := Int32.ofInt a
def lZ (a : Int) : Int64 := Int64.ofInt a
abbrev vI (a : Int) : Value := .int (iZ a)
abbrev vL (a : Int) : Value := .long (lZ a)
theorem iZ_toInt {a : Int} (h : -2147483648 ≤ a ∧ a < 2147483648) : (iZ a).toInt = a := by
  unfold iZ
  exact Int32.toInt_ofInt_of_le (by simpa using h.1) (by simpa using h.2)
theorem lZ_toInt {a : Int} (h : -9223372036854775808 ≤ a ∧ a < 9223372036854775808) : (lZ a).toInt = a := by
  unfold lZ
  exact Int64.toInt_ofInt_of_le (by simpa using h.1) (by simpa using h.2)
theorem iZ_of (x : Int32) : x = iZ x.toInt := by unfold iZ; simp
theorem iZ_rng (x : Int32) : -2147483648 ≤ x.toInt ∧ x.toInt < 2147483648 := ⟨Int32.le_toInt x, Int32.toInt_lt x⟩
theorem iZ_add (a b : Int) : iZ a + iZ b = iZ (a + b) := by unfold iZ; rw [Int32.ofInt_add]
theorem iZ_sub (a b : Int) : iZ a - iZ b = iZ (a - b) := by unfold iZ; rw [Int32.ofInt_sub]
theorem iZ_mul (a b : Int) : iZ a * iZ b = iZ (a * b) := by unfold iZ; rw [Int32.ofInt_mul]
theorem lZ_add (a b : Int) : lZ a + lZ b = lZ (a + b) := by unfold lZ; rw [Int64.ofInt_add]
theorem lZ_sub (a b : Int) : lZ a - lZ b = lZ (a - b) := by unfold lZ; rw [Int64.ofInt_sub]
theorem lZ_mul (a b : Int) : lZ a * lZ b = lZ (a * b) := by unfold lZ; rw [Int64.ofInt_mul]
theorem lZ_neg (a : Int) : -lZ a = lZ (-a) := by unfold lZ; rw [Int64.ofInt_neg]
theorem iZ_le {a b : Int} (ha : -2147483648 ≤ a ∧ a < 2147483648) (hb : -2147483648 ≤ b ∧ b < 2147483648) : iZ a ≤ iZ b ↔ a ≤ b := by
  rw [Int32.le_iff_toInt_le, iZ_toInt ha, iZ_toInt hb]
theorem iZ_lt {a b : Int} (ha : -2147483648 ≤ a ∧ a < 2147483648) (hb : -2147483648 ≤ b ∧ b < 2147483648) : iZ a < iZ b ↔ a < b := by
  rw [Int32.lt_iff_toInt_lt, iZ_toInt ha, iZ_toInt hb]
theorem iZ_eq {a b : Int} (ha : -2147483648 ≤ a ∧ a < 2147483648) (hb : -2147483648 ≤ b ∧ b < 2147483648) : iZ a = iZ b ↔ a = b := by
  rw [← Int32.toInt_inj, iZ_toInt ha, iZ_toInt hb]
theorem lZ_lt {a b : Int} (ha : -9223372036854775808 ≤ a ∧ a < 9223372036854775808) (hb : -9223372036854775808 ≤ b ∧ b < 9223372036854775808) : lZ a < lZ b ↔ a < b := by
  rw [Int64.lt_iff_toInt_lt, lZ_toInt ha, lZ_toInt hb]
theorem lZ_eq {a b : Int} (ha : -9223372036854775808 ≤ a ∧ a < 9223372036854775808) (hb : -9223372036854775808 ≤ b ∧ b < 9223372036854775808) : lZ a = lZ b ↔ a = b := by
  rw [← Int64.toInt_inj, lZ_toInt ha, lZ_toInt hb]
theorem iZ_0 : iZ 0 = 0 := rfl
theorem iZ_div {a b : Int} (ha : 0 ≤ a ∧ a < 2147483648) (hb : 0 < b ∧ b < 2147483648) : iZ a / iZ b = iZ (a / b) := by
  have h1 : 0 ≤ a / b := Int.ediv_nonneg ha.1 (by omega)
  have h2 : a / b ≤ a := Int.ediv_le_self b ha.1
  rw [← Int32.toInt_inj, Int32.toInt_div, iZ_toInt (by omega), iZ_toInt (by omega), iZ_toInt (by omega), Int.tdiv_eq_ediv_of_nonneg ha.1]
  have e := iZ_toInt (a := a / b) (by omega)
  rw [← Int32.toInt_ofInt]
  exact e
theorem iZ_rem {a b : Int} (ha : 0 ≤ a ∧ a < 2147483648) (hb : 0 < b ∧ b < 2147483648) : iZ a - iZ a / iZ b * iZ b = iZ (a % b) := by
  rw [iZ_div ha hb, iZ_mul, iZ_sub, Int.emod_def, Int.mul_comm]
theorem lZ_div {a b : Int} (ha : 0 ≤ a ∧ a < 9223372036854775808) (hb : 0 < b ∧ b < 9223372036854775808) : lZ a / lZ b = lZ (a / b) := by
  have h1 : 0 ≤ a / b := Int.ediv_nonneg ha.1 (by omega)
  have h2 : a / b ≤ a := Int.ediv_le_self b ha.1
  rw [← Int64.toInt_inj, Int64.toInt_div, lZ_toInt (by omega), lZ_toInt (by omega), lZ_toInt (by omega), Int.tdiv_eq_ediv_of_nonneg ha.1]
  have e := lZ_toInt (a := a / b) (by omega)
  rw [← Int64.toInt_ofInt]
  exact e
theorem lZ_rem {a b : Int} (ha : 0 ≤ a ∧ a < 9223372036854775808) (hb : 0 < b ∧ b < 9223372036854775808) : lZ a - lZ a / lZ b * lZ b = lZ (a % b) := by
  rw [lZ_div ha hb, lZ_mul, lZ_sub, Int.emod_def, Int.mul_comm]
theorem iZ_l {a : Int} (ha : -2147483648 ≤ a ∧ a < 2147483648) : (iZ a).toInt64 = lZ a := by
  rw [← Int64.toInt_inj, Int32.toInt_toInt64, iZ_toInt ha, lZ_toInt (by omega)]
theorem lZ_i {a : Int} (ha : -2147483648 ≤ a ∧ a < 2147483648) : (lZ a).toInt32 = iZ a := by
  rw [← Int32.toInt_inj, Int64.toInt_toInt32, lZ_toInt (by omega), iZ_toInt ha]
  have e := iZ_toInt ha
  unfold iZ at e
  rw [Int32.toInt_ofInt] at e
  exact e
def arI (N : Nat) (g : Nat → Int) : pE := .inl (0, N, .inl (fun j => iZ (g j)))
def arZ (N : Nat) (g : Nat → Int) : pE := .inl (1, N, .inl (fun j => iZ (g j)))
def arQ (N : Nat) (f : Nat → Option Nat) : pE := .inl (2, N, .inr (.inr (.inr (.inr f))))
def ob (ci : Nat) (fs : List Value) : pE := .inr (ci, fs)
def upZ (g : Nat → Int) (j : Nat) (v : Int) : Nat → Int := fun x => if x = j then v else g x
theorem upZ_s {g : Nat → Int} {j : Nat} {v : Int} : upZ g j v j = v := by simp [upZ]
theorem upZ_n {g : Nat → Int} {j x : Nat} {v : Int} (h : x ≠ j) : upZ g j v x = g x := by simp [upZ, h]
/-- outside of lo .. hi - 1 nothing has changed -/
def Off (M M' : pM) (lo hi : Nat) : Prop := ∀ x : Nat, ¬ (lo ≤ x ∧ x < hi) → M' x = M x
theorem Off.rf {M : pM} {lo hi : Nat} : Off M M lo hi := fun _ _ => rfl
theorem Off.tr {M M1 M2 : pM} {lo hi : Nat} (h : Off M M1 lo hi) (h2 : Off M1 M2 lo hi) : Off M M2 lo hi := fun x hx => (h2 x hx).trans (h x hx)
theorem Off.wd {M M' : pM} {lo hi lo' hi' : Nat} (h : Off M M' lo hi) (h1 : lo' ≤ lo) (h2 : hi ≤ hi') : Off M M' lo' hi' := fun x hx => h x (by omega)
theorem Off.one {M M1 M2 : pM} {lo hi a : Nat} (h : Off M M1 lo hi) (h2 : ∀ x, x ≠ a → M2 x = M1 x) (ha : lo ≤ a ∧ a < hi) : Off M M2 lo hi := fun x hx => (h2 x (by omega)).trans (h x hx)
/-- a call that changes nothing -/
def CR (I : MI) (y : MethodName) (args : List Value) (M : pM) (z : Nat) (r : Option Value) : Prop := C I y args M z 0 0 (fun M' z' r' => M' = M ∧ z' = z ∧ r' = r)
/-- a call that makes nothing -/
def CW (I : MI) (y : MethodName) (args : List Value) (M : pM) (z : Nat) (P : pM → Option Value → Prop) : Prop := C I y args M z 0 0 (fun M' z' r' => z' = z ∧ P M' r')
theorem C.toCW {I : MI} {y : MethodName} {args : List Value} {M : pM} {z : Nat} {r : Option Value} {P : pM → Option Value → Prop} (h : CR I y args M z r) (hP : P M r) : CW I y args M z P := C.mono h (fun M' z' r' hh => ⟨hh.2.1, by rw [hh.1, hh.2.2]; exact hP⟩)
theorem CW.mono {I : MI} {y : MethodName} {args : List Value} {M : pM} {z : Nat} {P P' : pM → Option Value → Prop} (h : CW I y args M z P) (hP : ∀ M' r, P M' r → P' M' r) : CW I y args M z P' := C.mono h (fun M' z' r' hh => ⟨hh.1, hP _ _ hh.2⟩)
/-- an answer alone may be another that is the same -/
theorem CR.eq {I : MI} {y : MethodName} {args : List Value} {M : pM} {z : Nat} {r r' : Option Value} (h : CR I y args M z r) (hr : r = r') : CR I y args M z r' := by rw [← hr]; exact h
section GZ
variable {I : MI} {mc ms : Nat} {Q : pM → Nat → Option Value → Prop} {k n pc : Nat} {pl : List (Option Value)} {st : List Value} {M : pM} {z : Nat}
theorem G.top {v v' : Value} (h : v = v') (K : G I mc ms Q k n pc pl (v' :: st) M z) : G I mc ms Q k n pc pl (v :: st) M z := by rw [h]; exact K
theorem z_iconst {c0 : Int} (hd : decode I.1 pc = .ok (.iconst c0, 1)) (K : G I mc ms Q k n (pc + 1) pl (vI c0 :: st) M z) : G I mc ms Q k n pc pl st M z := g_iconst hd rfl K
theorem z_bipush {c0 : Int} (hd : decode I.1 pc = .ok (.bipush c0, 2)) (hv : (Int8.ofInt c0).toInt32 = iZ c0) (K : G I mc ms Q k n (pc + 2) pl (vI c0 :: st) M z) : G I mc ms Q k n pc pl st M z := g_bipush hd hv K
theorem z_sipush {c0 : Int} (hd : decode I.1 pc = .ok (.sipush c0, 3)) (hv : (Int16.ofInt c0).toInt32 = iZ c0) (K : G I mc ms Q k n (pc + 3) pl (vI c0 :: st) M z) : G I mc ms Q k n pc pl st M z := g_sipush hd hv K
theorem z_lconst {c0 : Fin 2} {a : Int} (hd : decode I.1 pc = .ok (.lconst c0, 1)) (ha : ((c0 : Nat) : Int) = a) (K : G I mc ms Q k n (pc + 1) pl (vL a :: st) M z) : G I mc ms Q k n pc pl st M z := g_lconst hd (by rw [← ha]; unfold lZ; exact (Int64.ofInt_eq_ofNat).symm) K
theorem z_ldc {i : Nat} {v : Int32} (a : Int) (hd : decode I.1 pc = .ok (.ldc i, 2)) (hc : Cond.constant I.2.2.2.1 i v ∈ TBL) (hv : v = iZ a) (K : G I mc ms Q k n (pc + 2) pl (vI a :: st) M z) : G I mc ms Q k n pc pl st M z := g_ldc hd hc (by rw [hv]; exact K)
theorem z_ldcw {i : Nat} {v : Int32} (a : Int) (hd : decode I.1 pc = .ok (.ldc_w i, 3)) (hc : Cond.constant I.2.2.2.1 i v ∈ TBL) (hv : v = iZ a) (K : G I mc ms Q k n (pc + 3) pl (vI a :: st) M z) : G I mc ms Q k n pc pl st M z := g_ldcw hd hc (by rw [hv]; exact K)
theorem z_ldc2 {i : Nat} {v : Int64} (a : Int) (hd : decode I.1 pc = .ok (.ldc2_w i, 3)) (hc : Cond.constantLong I.2.2.2.1 i v ∈ TBL) (hv : v = lZ a) (K : G I mc ms Q k n (pc + 3) pl (vL a :: st) M z) : G I mc ms Q k n pc pl st M z := g_ldc2 hd hc (by rw [hv]; exact K)
theorem z_iadd {a b : Int} (hd : decode I.1 pc = .ok (.iadd, 1)) (K : G I mc ms Q k n (pc + 1) pl (vI (a + b) :: st) M z) : G I mc ms Q k n pc pl (vI b :: vI a :: st) M z := g_iadd hd (by rw [iZ_add]; exact K)
theorem z_isub {a b : Int} (hd : decode I.1 pc = .ok (.isub, 1)) (K : G I mc ms Q k n (pc + 1) pl (vI (a - b) :: st) M z) : G I mc ms Q k n pc pl (vI b :: vI a :: st) M z := g_isub hd (by rw [iZ_sub]; exact K)
theorem z_imul {a b : Int} (hd : decode I.1 pc = .ok (.imul, 1)) (K : G I mc ms Q k n (pc + 1) pl (vI (a * b) :: st) M z) : G I mc ms Q k n pc pl (vI b :: vI a :: st) M z := g_imul hd (by rw [iZ_mul]; exact K)
theorem z_ladd {a b : Int} (hd : decode I.1 pc = .ok (.ladd, 1)) (K : G I mc ms Q k n (pc + 1) pl (vL (a + b) :: st) M z) : G I mc ms Q k n pc pl (vL b :: vL a :: st) M z := g_ladd hd (by rw [lZ_add]; exact K)
theorem z_lsub {a b : Int} (hd : decode I.1 pc = .ok (.lsub, 1)) (K : G I mc ms Q k n (pc + 1) pl (vL (a - b) :: st) M z) : G I mc ms Q k n pc pl (vL b :: vL a :: st) M z := g_lsub hd (by rw [lZ_sub]; exact K)
theorem z_lmul {a b : Int} (hd : decode I.1 pc = .ok (.lmul, 1)) (K : G I mc ms Q k n (pc + 1) pl (vL (a * b) :: st) M z) : G I mc ms Q k n pc pl (vL b :: vL a :: st) M z := g_lmul hd (by rw [lZ_mul]; exact K)
theorem z_lneg {a : Int} (hd : decode I.1 pc = .ok (.lneg, 1)) (K : G I mc ms Q k n (pc + 1) pl (vL (-a) :: st) M z) : G I mc ms Q k n pc pl (vL a :: st) M z := g_lneg hd (by rw [lZ_neg]; exact K)
theorem z_idiv {a b : Int} (hd : decode I.1 pc = .ok (.idiv, 1)) (ha : 0 ≤ a ∧ a < 2147483648) (hb : 0 < b ∧ b < 2147483648) (K : G I mc ms Q k n (pc + 1) pl (vI (a / b) :: st) M z) : G I mc ms Q k n pc pl (vI b :: vI a :: st) M z := g_idiv hd (fun h => by have := (iZ_eq (by omega) (by omega)).mp (h.trans iZ_0.symm); omega) (by rw [iZ_div ha hb]; exact K)
theorem z_irem {a b : Int} (hd : decode I.1 pc = .ok (.irem, 1)) (ha : 0 ≤ a ∧ a < 2147483648) (hb : 0 < b ∧ b < 2147483648) (K : G I mc ms Q k n (pc + 1) pl (vI (a % b) :: st) M z) : G I mc ms Q k n pc pl (vI b :: vI a :: st) M z := g_irem hd (fun h => by have := (iZ_eq (by omega) (by omega)).mp (h.trans iZ_0.symm); omega) (by rw [iZ_rem ha hb]; exact K)
theorem z_ldiv {a b : Int} (hd : decode I.1 pc = .ok (.ldiv, 1)) (ha : 0 ≤ a ∧ a < 9223372036854775808) (hb : 0 < b ∧ b < 9223372036854775808) (K : G I mc ms Q k n (pc + 1) pl (vL (a / b) :: st) M z) : G I mc ms Q k n pc pl (vL b :: vL a :: st) M z := g_ldiv hd (fun h => by have := (lZ_eq (a := b) (b := 0) (by omega) (by omega)).mp (h.trans rfl); omega) (by rw [lZ_div ha hb]; exact K)
theorem z_lrem {a b : Int} (hd : decode I.1 pc = .ok (.lrem, 1)) (ha : 0 ≤ a ∧ a < 9223372036854775808) (hb : 0 < b ∧ b < 9223372036854775808) (K : G I mc ms Q k n (pc + 1) pl (vL (a % b) :: st) M z) : G I mc ms Q k n pc pl (vL b :: vL a :: st) M z := g_lrem hd (fun h => by have := (lZ_eq (a := b) (b := 0) (by omega) (by omega)).mp (h.trans rfl); omega) (by rw [lZ_rem ha hb]; exact K)
theorem z_i2l {a : Int} (hd : decode I.1 pc = .ok (.i2l, 1)) (ha : -2147483648 ≤ a ∧ a < 2147483648) (K : G I mc ms Q k n (pc + 1) pl (vL a :: st) M z) : G I mc ms Q k n pc pl (vI a :: st) M z := g_i2l hd (by rw [iZ_l ha]; exact K)
theorem z_l2i {a : Int} (hd : decode I.1 pc = .ok (.l2i, 1)) (ha : -2147483648 ≤ a ∧ a < 2147483648) (K : G I mc ms Q k n (pc + 1) pl (vI a :: st) M z) : G I mc ms Q k n pc pl (vL a :: st) M z := g_l2i hd (by rw [lZ_i ha]; exact K)
theorem z_lcmp {a b : Int} (hd : decode I.1 pc = .ok (.lcmp, 1)) (ha : -9223372036854775808 ≤ a ∧ a < 9223372036854775808) (hb : -9223372036854775808 ≤ b ∧ b < 9223372036854775808) (kg : b < a → G I mc ms Q k n (pc + 1) pl (vI 1 :: st) M z) (ke : a = b → G I mc ms Q k n (pc + 1) pl (vI 0 :: st) M z) (kl : a < b → G I mc ms Q k n (pc + 1) pl (vI (-1) :: st) M z) : G I mc ms Q k n pc pl (vL b :: vL a :: st) M z := by
  refine g_lcmp hd ?_
  unfold lg_cmp
  by_cases h1 : lZ b < lZ a
  · rw [if_pos h1]; exact kg ((lZ_lt hb ha).mp h1)
  · rw [if_neg h1]
    have h1' := mt (lZ_lt hb ha).mpr h1
    by_cases h2 : lZ a = lZ b
    · rw [if_pos h2]; exact ke ((lZ_eq ha hb).mp h2)
    · rw [if_neg h2]
      have h2' := mt (lZ_eq ha hb).mpr h2
      exact kl (by omega)
theorem z_iinc {i : Nat} {c0 a : Int} (hd : decode I.1 pc = .ok (.iinc i c0, 3)) (hl : pl[i]? = some (some (vI a))) (hn : i < I.2.1) (K : G I mc ms Q k n (pc + 3) (s1 pl i (vI (a + c0))) st M z) : G I mc ms Q k n pc pl st M z := g_iinc hd hl (iZ_add a c0) hn K
theorem z_if_eq {a : Int} {off : Int} {tgt : Nat} (hd : decode I.1 pc = .ok (.ifCond .eq off, 3)) (ht : (pc : Int) + off = (tgt : Int)) (ha : -2147483648 ≤ a ∧ a < 2147483648) (kt : a = 0 → G I mc ms Q k n tgt pl st M z) (kf : a ≠ 0 → G I mc ms Q k n (pc + 3) pl st M z) : G I mc ms Q k n pc pl (vI a :: st) M z := g_if_eq hd ht (fun h => kt (((iZ_eq (a := a) (b := 0) ha (by omega))).mp h)) (fun h => kf (by have := mt ((iZ_eq (a := a) (b := 0) ha (by omega))).mpr h; omega))
theorem z_if_ne {a : Int} {off : Int} {tgt : Nat} (hd : decode I.1 pc = .ok (.ifCond .ne off, 3)) (ht : (pc : Int) + off = (tgt : Int)) (ha : -2147483648 ≤ a ∧ a < 2147483648) (kt : a ≠ 0 → G I mc ms Q k n tgt pl st M z) (kf : a = 0 → G I mc ms Q k n (pc + 3) pl st M z) : G I mc ms Q k n pc pl (vI a :: st) M z := g_if_ne hd ht (fun h => kt (fun q => h (((iZ_eq (a := a) (b := 0) ha (by omega))).mpr q))) (fun h => kf (((iZ_eq (a := a) (b := 0) ha (by omega))).mp h))
theorem z_if_lt {a : Int} {off : Int} {tgt : Nat} (hd : decode I.1 pc = .ok (.ifCond .lt off, 3)) (ht : (pc : Int) + off = (tgt : Int)) (ha : -2147483648 ≤ a ∧ a < 2147483648) (kt : a < 0 → G I mc ms Q k n tgt pl st M z) (kf : 0 ≤ a → G I mc ms Q k n (pc + 3) pl st M z) : G I mc ms Q k n pc pl (vI a :: st) M z := g_if_lt hd ht (fun h => kt (((iZ_lt (a := a) (b := 0) ha (by omega))).mp h)) (fun h => kf (by have := mt ((iZ_lt (a := a) (b := 0) ha (by omega))).mpr h; omega))
theorem z_if_ge {a : Int} {off : Int} {tgt : Nat} (hd : decode I.1 pc = .ok (.ifCond .ge off, 3)) (ht : (pc : Int) + off = (tgt : Int)) (ha : -2147483648 ≤ a ∧ a < 2147483648) (kt : 0 ≤ a → G I mc ms Q k n tgt pl st M z) (kf : a < 0 → G I mc ms Q k n (pc + 3) pl st M z) : G I mc ms Q k n pc pl (vI a :: st) M z := g_if_ge hd ht (fun h => kt (((iZ_le (a := 0) (b := a) (by omega) ha)).mp h)) (fun h => kf (by have := mt ((iZ_le (a := 0) (b := a) (by omega) ha)).mpr h; omega))
theorem z_if_gt {a : Int} {off : Int} {tgt : Nat} (hd : decode I.1 pc = .ok (.ifCond .gt off, 3)) (ht : (pc : Int) + off = (tgt : Int)) (ha : -2147483648 ≤ a ∧ a < 2147483648) (kt : 0 < a → G I mc ms Q k n tgt pl st M z) (kf : a ≤ 0 → G I mc ms Q k n (pc + 3) pl st M z) : G I mc ms Q k n pc pl (vI a :: st) M z := g_if_gt hd ht (fun h => kt (((iZ_lt (a := 0) (b := a) (by omega) ha)).mp h)) (fun h => kf (by have := mt ((iZ_lt (a := 0) (b := a) (by omega) ha)).mpr h; omega))
theorem z_if_le {a : Int} {off : Int} {tgt : Nat} (hd : decode I.1 pc = .ok (.ifCond .le off, 3)) (ht : (pc : Int) + off = (tgt : Int)) (ha : -2147483648 ≤ a ∧ a < 2147483648) (kt : a ≤ 0 → G I mc ms Q k n tgt pl st M z) (kf : 0 < a → G I mc ms Q k n (pc + 3) pl st M z) : G I mc ms Q k n pc pl (vI a :: st) M z := g_if_le hd ht (fun h => kt (((iZ_le (a := a) (b := 0) ha (by omega))).mp h)) (fun h => kf (by have := mt ((iZ_le (a := a) (b := 0) ha (by omega))).mpr h; omega))
theorem z_icmp_eq {a b : Int} {off : Int} {tgt : Nat} (hd : decode I.1 pc = .ok (.if_icmp .eq off, 3)) (ht : (pc : Int) + off = (tgt : Int)) (ha : -2147483648 ≤ a ∧ a < 2147483648) (hb : -2147483648 ≤ b ∧ b < 2147483648) (kt : a = b → G I mc ms Q k n tgt pl st M z) (kf : a ≠ b → G I mc ms Q k n (pc + 3) pl st M z) : G I mc ms Q k n pc pl (vI b :: vI a :: st) M z := g_icmp_eq hd ht (fun h => kt ((iZ_eq ha hb).mp h)) (fun h => kf (by have := mt (iZ_eq ha hb).mpr h; omega))
theorem z_icmp_ne {a b : Int} {off : Int} {tgt : Nat} (hd : decode I.1 pc = .ok (.if_icmp .ne off, 3)) (ht : (pc : Int) + off = (tgt : Int)) (ha : -2147483648 ≤ a ∧ a < 2147483648) (hb : -2147483648 ≤ b ∧ b < 2147483648) (kt : a ≠ b → G I mc ms Q k n tgt pl st M z) (kf : a = b → G I mc ms Q k n (pc + 3) pl st M z) : G I mc ms Q k n pc pl (vI b :: vI a :: st) M z := g_icmp_ne hd ht (fun h => kt (fun q => h ((iZ_eq ha hb).mpr q))) (fun h => kf ((iZ_eq ha hb).mp h))
theorem z_icmp_lt {a b : Int} {off : Int} {tgt : Nat} (hd : decode I.1 pc = .ok (.if_icmp .lt off, 3)) (ht : (pc : Int) + off = (tgt : Int)) (ha : -2147483648 ≤ a ∧ a < 2147483648) (hb : -2147483648 ≤ b ∧ b < 2147483648) (kt : a < b → G I mc ms Q k n tgt pl st M z) (kf : b ≤ a → G I mc ms Q k n (pc + 3) pl st M z) : G I mc ms Q k n pc pl (vI b :: vI a :: st) M z := g_icmp_lt hd ht (fun h => kt ((iZ_lt ha hb).mp h)) (fun h => kf (by have := mt (iZ_lt ha hb).mpr h; omega))
theorem z_icmp_ge {a b : Int} {off : Int} {tgt : Nat} (hd : decode I.1 pc = .ok (.if_icmp .ge off, 3)) (ht : (pc : Int) + off = (tgt : Int)) (ha : -2147483648 ≤ a ∧ a < 2147483648) (hb : -2147483648 ≤ b ∧ b < 2147483648) (kt : b ≤ a → G I mc ms Q k n tgt pl st M z) (kf : a < b → G I mc ms Q k n (pc + 3) pl st M z) : G I mc ms Q k n pc pl (vI b :: vI a :: st) M z := g_icmp_ge hd ht (fun h => kt ((iZ_le hb ha).mp h)) (fun h => kf (by have := mt (iZ_le hb ha).mpr h; omega))
theorem z_icmp_gt {a b : Int} {off : Int} {tgt : Nat} (hd : decode I.1 pc = .ok (.if_icmp .gt off, 3)) (ht : (pc : Int) + off = (tgt : Int)) (ha : -2147483648 ≤ a ∧ a < 2147483648) (hb : -2147483648 ≤ b ∧ b < 2147483648) (kt : b < a → G I mc ms Q k n tgt pl st M z) (kf : a ≤ b → G I mc ms Q k n (pc + 3) pl st M z) : G I mc ms Q k n pc pl (vI b :: vI a :: st) M z := g_icmp_gt hd ht (fun h => kt ((iZ_lt hb ha).mp h)) (fun h => kf (by have := mt (iZ_lt hb ha).mpr h; omega))
theorem z_icmp_le {a b : Int} {off : Int} {tgt : Nat} (hd : decode I.1 pc = .ok (.if_icmp .le off, 3)) (ht : (pc : Int) + off = (tgt : Int)) (ha : -2147483648 ≤ a ∧ a < 2147483648) (hb : -2147483648 ≤ b ∧ b < 2147483648) (kt : a ≤ b → G I mc ms Q k n tgt pl st M z) (kf : b < a → G I mc ms Q k n (pc + 3) pl st M z) : G I mc ms Q k n pc pl (vI b :: vI a :: st) M z := g_icmp_le hd ht (fun h => kt ((iZ_le ha hb).mp h)) (fun h => kf (by have := mt (iZ_le ha hb).mpr h; omega))
theorem z_getf {idx ci f a : Nat} {C : String} {T : u_T} {N : Nat} {ty : Nat → FieldType} {fs : List Value} {v : Value} (fl : FL I.2.2.2.1 idx ci f C T N ty) (hd : decode I.1 pc = .ok (.getfield idx, 3)) (hM : M a = some (ob ci fs)) (hv : fs[f]? = some v) (K : G I mc ms Q k n (pc + 3) pl (v :: st) M z) : G I mc ms Q k n pc pl (.ref a :: st) M z := g_getf fl hd hM hv K
theorem z_putf {idx ci f a : Nat} {C : String} {T : u_T} {N : Nat} {ty : Nat → FieldType} {fs : List Value} {v : Value} (fl : FL I.2.2.2.1 idx ci f C T N ty) (hd : decode I.1 pc = .ok (.putfield idx, 3)) (hM : M a = some (ob ci fs)) (hfin : (T f).2.2.2 = false) (hl : f < fs.length) (hn : narrow (ty f) v = v) (hft : fits (ty f) v = true) (K : ∀ M' : pM, M' a = some (ob ci (fs.set f v)) → (∀ x, x ≠ a → M' x = M x) → G I mc ms Q k n (pc + 3) pl st M' z) : G I mc ms Q k n pc pl (v :: .ref a :: st) M z := g_putf fl (Or.inl hfin) hd hM hl hn hft (K _ pU_same (fun x h => pU_ne h))
theorem z_putF {idx ci f a : Nat} {C : String} {T : u_T} {N : Nat} {ty : Nat → FieldType} {fs : List Value} {v : Value} (fl : FL I.2.2.2.1 idx ci f C T N ty) (ff : Cond.fieldLink I.2.2.2.1 idx C (T f).2.1 (T f).2.2.1 ∈ TBL) (hd : decode I.1 pc = .ok (.putfield idx, 3)) (hM : M a = some (ob ci fs)) (hfin : (T f).2.2.2 = true) (hi : I.2.2.2.2.2.2 = true) (hC : C = I.2.2.2.1) (hl : f < fs.length) (hn : narrow (ty f) v = v) (hft : fits (ty f) v = true) (K : ∀ M' : pM, M' a = some (ob ci (fs.set f v)) → (∀ x, x ≠ a → M' x = M x) → G I mc ms Q k n (pc + 3) pl st M' z) : G I mc ms Q k n pc pl (v :: .ref a :: st) M z := g_putf fl (Or.inr ⟨hfin, hi, hC, ff⟩) hd hM hl hn hft (K _ pU_same (fun x h => pU_ne h))
theorem z_iaload {a j N : Nat} {g : Nat → Int} {i : Int} (hd : decode I.1 pc = .ok (.iaload, 1)) (hM : M a = some (arI N g)) (hi : i = (j : Int)) (hj : j < N) (hN : N < 2147483648) (K : G I mc ms Q k n (pc + 1) pl (vI (g j) :: st) M z) : G I mc ms Q k n pc pl (vI i :: .ref a :: st) M z := g_iaload hd hM (by rw [iZ_toInt (by omega), hi]) hj K
theorem z_baload {a j N : Nat} {g : Nat → Int} {i : Int} (hd : decode I.1 pc = .ok (.baload, 1)) (hM : M a = some (arZ N g)) (hi : i = (j : Int)) (hj : j < N) (hN : N < 2147483648) (K : G I mc ms Q k n (pc + 1) pl (vI (g j) :: st) M z) : G I mc ms Q k n pc pl (vI i :: .ref a :: st) M z := g_baload hd hM (by rw [iZ_toInt (by omega), hi]) hj K
theorem z_aaload {a j N b : Nat} {f : Nat → Option Nat} {i : Int} (hd : decode I.1 pc = .ok (.aaload, 1)) (hM : M a = some (arQ N f)) (hi : i = (j : Int)) (hj : j < N) (hN : N < 2147483648) (hf : f j = some b) (K : G I mc ms Q k n (pc + 1) pl (.ref b :: st) M z) : G I mc ms Q k n pc pl (vI i :: .ref a :: st) M z := g_aaload hd hM (by rw [iZ_toInt (by omega), hi]) hj hf K
theorem z_iastore {a j N : Nat} {g : Nat → Int} {i v : Int} (hd : decode I.1 pc = .ok (.iastore, 1)) (hM : M a = some (arI N g)) (hi : i = (j : Int)) (hj : j < N) (hN : N < 2147483648) (K : ∀ M' : pM, M' a = some (arI N (upZ g j v)) → (∀ x, x ≠ a → M' x = M x) → G I mc ms Q k n (pc + 1) pl st M' z) : G I mc ms Q k n pc pl (vI v :: vI i :: .ref a :: st) M z := by
  refine g_iastore hd hM (by rw [iZ_toInt (by omega), hi]) hj ?_
  refine K _ ?_ (fun x h => pU_ne h)
  rw [pU_same]
  unfold arI
  congr 5
  funext x
  unfold upd upZ
  split <;> rfl
theorem z_bastore {a j N : Nat} {g : Nat → Int} {i v : Int} (hd : decode I.1 pc = .ok (.bastore, 1)) (hM : M a = some (arZ N g)) (hi : i = (j : Int)) (hj : j < N) (hN : N < 2147483648) (hv : v = 0 ∨ v = 1) (K : ∀ M' : pM, M' a = some (arZ N (upZ g j v)) → (∀ x, x ≠ a → M' x = M x) → G I mc ms Q k n (pc + 1) pl st M' z) : G I mc ms Q k n pc pl (vI v :: vI i :: .ref a :: st) M z := by
  refine g_bastore hd hM (by rw [iZ_toInt (by omega), hi]) hj (by rcases hv with rfl | rfl <;> rfl) ?_
  refine K _ ?_ (fun x h => pU_ne h)
  rw [pU_same]
  unfold arZ
  congr 5
  funext x
  unfold upd upZ
  split <;> rfl
theorem z_aastore {a j N b : Nat} {f : Nat → Option Nat} {i : Int} {vs : List Value} (hd : decode I.1 pc = .ok (.aastore, 1)) (hM : M a = some (arQ N f)) (hb : M b = some (ob 7 vs)) (hi : i = (j : Int)) (hj : j < N) (hN : N < 2147483648) (K : ∀ M' : pM, M' a = some (arQ N (va_up f j (some b))) → (∀ x, x ≠ a → M' x = M x) → G I mc ms Q k n (pc + 1) pl st M' z) : G I mc ms Q k n pc pl (.ref b :: vI i :: .ref a :: st) M z := g_aastore ⟨TX7, 8, rfl⟩ hd hM hb (by rw [iZ_toInt (by omega), hi]) hj (K _ pU_same (fun x h => pU_ne h))
theorem nI_iZ (N : Nat) : nI N = iZ N := by unfold nI iZ; exact Int32.ofInt_eq_ofNat.symm
theorem z_alenI {a N : Nat} {g : Nat → Int} (hd : decode I.1 pc = .ok (.arraylength, 1)) (hM : M a = some (arI N g)) (K : G I mc ms Q k n (pc + 1) pl (vI N :: st) M z) : G I mc ms Q k n pc pl (.ref a :: st) M z := g_alen (t := 0) (by decide) hd hM (by rw [nI_iZ]; exact K)
theorem z_alenZ {a N : Nat} {g : Nat → Int} (hd : decode I.1 pc = .ok (.arraylength, 1)) (hM : M a = some (arZ N g)) (K : G I mc ms Q k n (pc + 1) pl (vI N :: st) M z) : G I mc ms Q k n pc pl (.ref a :: st) M z := g_alen (t := 1) (by decide) hd hM (by rw [nI_iZ]; exact K)
theorem z_alenQ {a N : Nat} {g : Nat → Option Nat} (hd : decode I.1 pc = .ok (.arraylength, 1)) (hM : M a = some (arQ N g)) (K : G I mc ms Q k n (pc + 1) pl (vI N :: st) M z) : G I mc ms Q k n pc pl (.ref a :: st) M z := g_alen (t := 2) (by decide) hd hM (by rw [nI_iZ]; exact K)
theorem z_new {idx ci : Nat} {C : String} {T : u_T} {N : Nat} {ty : Nat → FieldType} {fs : List Value} (hc : CIs ci C T N ty) (hl : Cond.classLink I.2.2.2.1 idx C ∈ TBL ∧ Cond.instantiable C N ∈ TBL ∧ Cond.initialized C ∈ TBL) (hd : decode I.1 pc = .ok (.new idx, 3)) (hfs : ∀ j, j < N → defaultValue (ty j) = vp_V fs j) (hk : k + 1 ≤ mc) (hn : n + N ≤ ms) (K : ∀ M' : pM, M z = none → M' z = some (ob ci fs) → (∀ x, x ≠ z → M' x = M x) → G I mc ms Q (k + 1) (n + N) (pc + 3) pl (.ref z :: st) M' (z + 1)) : G I mc ms Q k n pc pl st M z := g_new hc hl hd hfs hk hn (fun h => K _ h pU_same (fun x h => pU_ne h))
theorem z_newI {N : Nat} {i : Int} (hd : decode I.1 pc = .ok (.newarray .int, 2)) (hi : i = (N : Int)) (hN : N ≤ 100000000) (hk : k + 1 ≤ mc) (hn : n + N ≤ ms) (K : ∀ M' : pM, M z = none → M' z = some (arI N (fun _ => 0)) → (∀ x, x ≠ z → M' x = M x) → G I mc ms Q (k + 1) (n + N) (pc + 2) pl (.ref z :: st) M' (z + 1)) : G I mc ms Q k n pc pl (vI i :: st) M z := g_newarr (t := 0) (Or.inl ⟨rfl, rfl⟩) ac_int hd (by rw [iZ_toInt (by omega), hi]) hN hk hn (fun h => K _ h pU_same (fun x h => pU_ne h))
theorem z_newZ {N : Nat} {i : Int} (hd : decode I.1 pc = .ok (.newarray .boolean, 2)) (hi : i = (N : Int)) (hN : N ≤ 100000000) (hk : k + 1 ≤ mc) (hn : n + N ≤ ms) (K : ∀ M' : pM, M z = none → M' z = some (arZ N (fun _ => 0)) → (∀ x, x ≠ z → M' x = M x) → G I mc ms Q (k + 1) (n + N) (pc + 2) pl (.ref z :: st) M' (z + 1)) : G I mc ms Q k n pc pl (vI i :: st) M z := g_newarr (t := 1) (Or.inr ⟨rfl, rfl⟩) ac_boolean hd (by rw [iZ_toInt (by omega), hi]) hN hk hn (fun h => K _ h pU_same (fun x h => pU_ne h))
theorem z_newQ {idx N : Nat} {i : Int} (hl : Cond.classLink I.2.2.2.1 idx "ContextCoder$State" ∈ TBL) (hd : decode I.1 pc = .ok (.anewarray idx, 3)) (hi : i = (N : Int)) (hN : N ≤ 100000000) (hk : k + 1 ≤ mc) (hn : n + N ≤ ms) (K : ∀ M' : pM, M z = none → M' z = some (arQ N (fun _ => none)) → (∀ x, x ≠ z → M' x = M x) → G I mc ms Q (k + 1) (n + N) (pc + 3) pl (.ref z :: st) M' (z + 1)) : G I mc ms Q k n pc pl (vI i :: st) M z := g_anewarr hl hd (by rw [iZ_toInt (by omega), hi]) hN hk hn (fun h => K _ h pU_same (fun x h => pU_ne h))
theorem z_max {idx : Nat} {a b : Int} (hl : Cond.methodLink I.2.2.2.1 idx Lib.Math.max.name ∈ TBL ∧ Cond.static Lib.Math.max.name ∈ TBL ∧ Cond.initialized "java/lang/Math" ∈ TBL ∧ Cond.code Lib.Math.max.name Lib.Math.max.code 2 (some .int) ∈ TBL) (hd : decode I.1 pc = .ok (.invokestatic idx, 3)) (hroom : 1 ≤ I.2.2.2.2.1 ∧ (st.map fun v => v.category).sum + 13 ≤ I.2.2.2.2.2.1) (hk : k ≤ mc) (hn : n ≤ ms) (ha : -2147483648 ≤ a ∧ a < 2147483648) (hb : -2147483648 ≤ b ∧ b < 2147483648) (K : G I mc ms Q k n (pc + 3) pl (vI (max a b) :: st) M z) : G I mc ms Q k n pc pl (vI b :: vI a :: st) M z := by
  refine g_max hl hd hroom hk hn ?_
  by_cases h : a < b
  · rw [if_pos ((iZ_lt ha hb).mpr h)]; rw [show max a b = b by omega] at K; exact K
  · rw [if_neg (fun q => h ((iZ_lt ha hb).mp q))]; rw [show max a b = a by omega] at K; exact K
theorem z_min {idx : Nat} {a b : Int} (hl : Cond.methodLink I.2.2.2.1 idx Lib.Math.min.name ∈ TBL ∧ Cond.static Lib.Math.min.name ∈ TBL ∧ Cond.initialized "java/lang/Math" ∈ TBL ∧ Cond.code Lib.Math.min.name Lib.Math.min.code 2 (some .int) ∈ TBL) (hd : decode I.1 pc = .ok (.invokestatic idx, 3)) (hroom : 1 ≤ I.2.2.2.2.1 ∧ (st.map fun v => v.category).sum + 13 ≤ I.2.2.2.2.2.1) (hk : k ≤ mc) (hn : n ≤ ms) (ha : -2147483648 ≤ a ∧ a < 2147483648) (hb : -2147483648 ≤ b ∧ b < 2147483648) (K : G I mc ms Q k n (pc + 3) pl (vI (min a b) :: st) M z) : G I mc ms Q k n pc pl (vI b :: vI a :: st) M z := by
  refine g_min hl hd hroom hk hn ?_
  by_cases h : b < a
  · rw [if_pos ((iZ_lt hb ha).mpr h)]; rw [show min a b = b by omega] at K; exact K
  · rw [if_neg (fun q => h ((iZ_lt hb ha).mp q))]; rw [show min a b = a by omega] at K; exact K
theorem z_minL {idx : Nat} {a b : Int} (hl : Cond.methodLink I.2.2.2.1 idx Lib.MathLoose.min_long.x ∈ TBL ∧ Cond.static Lib.MathLoose.min_long.x ∈ TBL ∧ Cond.initialized "java/lang/Math" ∈ TBL ∧ Cond.code Lib.MathLoose.min_long.x Lib.MathLoose.min_long.code 4 (some .long) ∈ TBL) (hd : decode I.1 pc = .ok (.invokestatic idx, 3)) (hroom : 1 ≤ I.2.2.2.2.1 ∧ (st.map fun v => v.category).sum + 15 ≤ I.2.2.2.2.2.1) (hk : k ≤ mc) (hn : n ≤ ms) (ha : -9223372036854775808 ≤ a ∧ a < 9223372036854775808) (hb : -9223372036854775808 ≤ b ∧ b < 9223372036854775808) (K : G I mc ms Q k n (pc + 3) pl (vL (min a b) :: st) M z) : G I mc ms Q k n pc pl (vL b :: vL a :: st) M z := by
  refine g_minL hl hd hroom hk hn ?_
  by_cases h : b < a
  · rw [if_pos ((lZ_lt hb ha).mpr h)]; rw [show min a b = b by omega] at K; exact K
  · rw [if_neg (fun q => h ((lZ_lt hb ha).mp q))]; rw [show min a b = a by omega] at K; exact K
def cpZ (f g : Nat → Int) (sp dp n : Nat) : Nat → Int := fun k => if dp ≤ k ∧ k < dp + n then f (sp + (k - dp)) else g k
theorem z_copy {idx a0 a n0 n1 js jd jn : Nat} {f g : Nat → Int} {sp dp i : Int} (hl : Cond.methodLink I.2.2.2.1 idx arraycopyName ∈ TBL ∧ Cond.native arraycopyName ∈ TBL ∧ Cond.static arraycopyName ∈ TBL ∧ Cond.initialized "java/lang/System" ∈ TBL) (hd : decode I.1 pc = .ok (.invokestatic idx, 3)) (hroom : 1 ≤ I.2.2.2.2.1 ∧ (st.map fun v => v.category).sum + (nativeFrameWords "java/lang/System" "arraycopy" 5 + 11) ≤ I.2.2.2.2.2.1) (hM0 : M a0 = some (arI n0 f)) (hM : M a = some (arI n1 g)) (hs : sp = (js : Int)) (hdp : dp = (jd : Int)) (hi : i = (jn : Int)) (h4 : js + jn ≤ n0) (h5 : jd + jn ≤ n1) (hn0 : n0 < 2147483648) (hn1 : n1 < 2147483648)
    (K : ∀ M' : pM, M' a = some (arI n1 (cpZ f g js jd jn)) → (∀ x, x ≠ a → M' x = M x) → G I mc ms Q k n (pc + 3) pl st M' z) : G I mc ms Q k n pc pl (vI i :: vI dp :: .ref a :: vI sp :: .ref a0 :: st) M z := by
  refine g_copy hl hd hroom hM0 hM (by rw [iZ_toInt (by omega), hs]) (by rw [iZ_toInt (by omega), hdp]) (by rw [iZ_toInt (by omega), hi]) h4 h5 ?_
  refine K _ ?_ (fun x h => pU_ne h)
  rw [pU_same]
  unfold arI
  congr 5
  funext x
  unfold va_cpy cpZ
  split <;> rfl
/-- calls -/
theorem z_callVR {J : MI} {y : MethodName} {idx nA b ci : Nat} {As rest fs : List Value} {T : u_T} {N : Nat} {v : Value} (hd : decode I.1 pc = .ok (.invokevirtual idx, 3)) (lm : LkM I.2.2.2.1 idx y) (lk : LkV y J nA) (hC : CR J y (.ref b :: As) M z (some v)) (hst : st = As.reverse ++ .ref b :: rest) (hn : As.length = nA) (hM : M b = some (ob ci fs)) (hci : classes[ci]? = some (y.cls, T, N)) (hroom : pRoom I J) (hW : (rest.map fun v => v.category).sum ≤ 8) (hk : k ≤ mc) (hs : n ≤ ms) (K : G I mc ms Q k n (pc + 3) pl (v :: rest) M z) : G I mc ms Q k n pc pl st M z :=
  g_callV hd lm lk hC hst hn hM hci hroom hW hk hs (fun M' z' r h => by obtain ⟨rfl, rfl, rfl⟩ := h; exact K)
theorem z_callVV {J : MI} {y : MethodName} {idx nA b ci : Nat} {As rest fs : List Value} {T : u_T} {N : Nat} {P : pM → Option Value → Prop} (hd : decode I.1 pc = .ok (.invokevirtual idx, 3)) (lm : LkM I.2.2.2.1 idx y) (lk : LkV y J nA) (hC : CW J y (.ref b :: As) M z P) (hst : st = As.reverse ++ .ref b :: rest) (hn : As.length = nA) (hM : M b = some (ob ci fs)) (hci : classes[ci]? = some (y.cls, T, N)) (hroom : pRoom I J) (hW : (rest.map fun v => v.category).sum ≤ 8) (hk : k ≤ mc) (hs : n ≤ ms) (K : ∀ M' r, P M' r → G I mc ms Q k n (pc + 3) pl (r.toList ++ rest) M' z) : G I mc ms Q k n pc pl st M z :=
  g_callV hd lm lk hC hst hn hM hci hroom hW hk hs (fun M' z' r h => by obtain ⟨rfl, h⟩ := h; exact K M' r h)
theorem z_callSR {J : MI} {y : MethodName} {idx nA : Nat} {As rest : List Value} {v : Value} (hd : decode I.1 pc = .ok (.invokestatic idx, 3)) (lm : LkM I.2.2.2.1 idx y) (lk : LkS y J nA) (hC : CR J y As M z (some v)) (hst : st = As.reverse ++ rest) (hn : As.length = nA) (hroom : pRoom I J) (hW : (rest.map fun v => v.category).sum ≤ 8) (hk : k ≤ mc) (hs : n ≤ ms) (K : G I mc ms Q k n (pc + 3) pl (v :: rest) M z) : G I mc ms Q k n pc pl st M z :=
  g_callS hd lm lk hC hst hn hroom hW hk hs (fun M' z' r h => by obtain ⟨rfl, rfl, rfl⟩ := h; exact K)
theorem z_callSV {J : MI} {y : MethodName} {idx nA : Nat} {As rest : List Value} {P : pM → Option Value → Prop} (hd : decode I.1 pc = .ok (.invokestatic idx, 3)) (lm : LkM I.2.2.2.1 idx y) (lk : LkS y J nA) (hC : CW J y As M z P) (hst : st = As.reverse ++ rest) (hn : As.length = nA) (hroom : pRoom I J) (hW : (rest.map fun v => v.category).sum ≤ 8) (hk : k ≤ mc) (hs : n ≤ ms) (K : ∀ M' r, P M' r → G I mc ms Q k n (pc + 3) pl (r.toList ++ rest) M' z) : G I mc ms Q k n pc pl st M z :=
  g_callS hd lm lk hC hst hn hroom hW hk hs (fun M' z' r h => by obtain ⟨rfl, h⟩ := h; exact K M' r h)
end GZ
end
section
/-! shifts and masks of iZ, lZ -/
theorem sh_c64 : ∀ s : Nat, s < 64 → ((iZ s).toInt64 &&& 63).toBitVec.smod 64 = BitVec.ofNat 64 s := by decide +kernel
theorem sh_c32 : ∀ s : Nat, s < 32 → (iZ s &&& 31).toBitVec.smod 32 = BitVec.ofNat 32 s := by decide +kernel
theorem lZ_bv (a : Int) : (lZ a).toBitVec = BitVec.ofInt 64 a := rfl
theorem iZ_bv (a : Int) : (iZ a).toBitVec = BitVec.ofInt 32 a := rfl
theorem lZ_shl (a : Int) {s : Nat} (hs : s < 64) : lZ a <<< ((iZ s).toInt64 &&& 63) = lZ (a * 2 ^ s) := by
  apply Int64.toBitVec_inj.mp
  rw [Int64.toBitVec_shiftLeft, sh_c64 s hs, lZ_bv, lZ_bv, BitVec.shiftLeft_eq', BitVec.toNat_ofNat, Nat.mod_eq_of_lt (by omega), BitVec.shiftLeft_eq_mul_twoPow, BitVec.ofInt_mul]
  congr 1
  apply BitVec.eq_of_toNat_eq
  rw [BitVec.toNat_twoPow, BitVec.toNat_ofInt]
  have e : (2 : Int) ^ s = ((2 ^ s : Nat) : Int) := by push_cast; rfl
  rw [e]
  omega
theorem iZ_shl (a : Int) {s : Nat} (hs : s < 32) : iZ a <<< (iZ s &&& 31) = iZ (a * 2 ^ s) := by
  apply Int32.toBitVec_inj.mp
  rw [Int32.toBitVec_shiftLeft, sh_c32 s hs, iZ_bv, iZ_bv, BitVec.shiftLeft_eq', BitVec.toNat_ofNat, Nat.mod_eq_of_lt (by omega), BitVec.shiftLeft_eq_mul_twoPow, BitVec.ofInt_mul]
  congr 1
  apply BitVec.eq_of_toNat_eq
  rw [BitVec.toNat_twoPow, BitVec.toNat_ofInt]
  have e : (2 : Int) ^ s = ((2 ^ s : Nat) : Int) := by push_cast; rfl
  rw [e]
  omega
theorem lZ_shr {a : Int} (ha : -9223372036854775808 ≤ a ∧ a < 9223372036854775808) {s : Nat} (hs : s < 64) : lZ a >>> ((iZ s).toInt64 &&& 63) = lZ (a / 2 ^ s) := by
  have h0 : (lZ a).toBitVec.toInt = a := lZ_toInt ha
  apply Int64.toBitVec_inj.mp
  rw [Int64.toBitVec_shiftRight, sh_c64 s hs, BitVec.sshiftRight_eq', BitVec.toNat_ofNat, Nat.mod_eq_of_lt (by omega)]
  apply BitVec.eq_of_toInt_eq
  have h1 : a / 2 ^ s ≤ a ∨ a < 0 := by
    by_cases h : 0 ≤ a
    · exact Or.inl (Int.ediv_le_self _ h)
    · exact Or.inr (by omega)
  have hp : (0 : Int) < 2 ^ s := Int.pow_pos (by decide)
  have h2 : -9223372036854775808 ≤ a / 2 ^ s ∧ a / 2 ^ s < 9223372036854775808 := by
    by_cases h : 0 ≤ a
    · have := Int.ediv_nonneg h (Int.le_of_lt hp)
      have := Int.ediv_le_self (2 ^ s) h
      omega
    · have := Int.ediv_neg_of_neg_of_pos (show a < 0 by omega) hp
      have h3 : a ≤ a / 2 ^ s := by
        rw [Int.le_ediv_iff_mul_le hp]
        have : a * 2 ^ s ≤ a * 1 := Int.mul_le_mul_of_nonpos_left (by omega) (by omega)
        omega
      omega
  rw [BitVec.toInt_sshiftRight, h0, Int.shiftRight_eq_div_pow]
  exact (lZ_toInt h2).symm
theorem iZ_shr {a : Int} (ha : -2147483648 ≤ a ∧ a < 2147483648) {s : Nat} (hs : s < 32) : iZ a >>> (iZ s &&& 31) = iZ (a / 2 ^ s) := by
  have h0 : (iZ a).toBitVec.toInt = a := iZ_toInt ha
  apply Int32.toBitVec_inj.mp
  rw [Int32.toBitVec_shiftRight, sh_c32 s hs, BitVec.sshiftRight_eq', BitVec.toNat_ofNat, Nat.mod_eq_of_lt (by omega)]
  apply BitVec.eq_of_toInt_eq
  have hp : (0 : Int) < 2 ^ s := Int.pow_pos (by decide)
  have h2 : -2147483648 ≤ a / 2 ^ s ∧ a / 2 ^ s < 2147483648 := by
    by_cases h : 0 ≤ a
    · have := Int.ediv_nonneg h (Int.le_of_lt hp)
      have := Int.ediv_le_self (2 ^ s) h
      omega
    · have := Int.ediv_neg_of_neg_of_pos (show a < 0 by omega) hp
      have h3 : a ≤ a / 2 ^ s := by
        rw [Int.le_ediv_iff_mul_le hp]
        have : a * 2 ^ s ≤ a * 1 := Int.mul_le_mul_of_nonpos_left (by omega) (by omega)
        omega
      omega
  rw [BitVec.toInt_sshiftRight, h0, Int.shiftRight_eq_div_pow]
  exact (iZ_toInt h2).symm
theorem iZ_and31 (a : Int) : iZ a &&& iZ 31 = iZ (a % 32) := by
  apply Int32.toBitVec_inj.mp
  rw [Int32.toBitVec_and, iZ_bv, iZ_bv, iZ_bv]
  apply BitVec.eq_of_toNat_eq
  rw [BitVec.toNat_and, BitVec.toNat_ofInt, BitVec.toNat_ofInt, BitVec.toNat_ofInt]
  have e : ((31 : Int) % ((2 ^ 32 : Nat) : Int)).toNat = 2 ^ 5 - 1 := by decide
  rw [e, Nat.and_two_pow_sub_one_eq_mod]
  omega
theorem lZ_and255 {a : Int} (ha : 0 ≤ a) : lZ a &&& lZ 255 = lZ (a % 256) := by
  apply Int64.toBitVec_inj.mp
  rw [Int64.toBitVec_and, lZ_bv, lZ_bv, lZ_bv]
  apply BitVec.eq_of_toNat_eq
  rw [BitVec.toNat_and, BitVec.toNat_ofInt, BitVec.toNat_ofInt, BitVec.toNat_ofInt]
  have e : ((255 : Int) % ((2 ^ 64 : Nat) : Int)).toNat = 2 ^ 8 - 1 := by decide
  rw [e, Nat.and_two_pow_sub_one_eq_mod]
  omega
theorem iZ_xor (a b : Nat) : iZ a ^^^ iZ b = iZ ((a ^^^ b : Nat) : Int) := by
  apply Int32.toBitVec_inj.mp
  rw [Int32.toBitVec_xor, iZ_bv, iZ_bv, iZ_bv]
  apply BitVec.eq_of_toNat_eq
  rw [BitVec.toNat_xor, BitVec.toNat_ofInt, BitVec.toNat_ofInt, BitVec.toNat_ofInt]
  norm_cast
  simp only [Int.toNat_natCast]
  rw [Nat.xor_mod_two_pow]
theorem neg_bits : ∀ z : Nat, z < 5 → ∀ i : Nat, i < 64 → (BitVec.ofInt 64 (-(2 ^ (8 * z)))).getLsbD i = decide (8 * z ≤ i) := by decide +kernel
/-- the multiples of 256^z: a number without its lower bits -/
theorem lZ_mult {a : Int} (ha : 0 ≤ a ∧ a < 9223372036854775808) {z : Nat} (hz : z < 5) : lZ a &&& lZ (-(2 ^ (8 * z))) = lZ (a / 2 ^ (8 * z) * 2 ^ (8 * z)) := by
  obtain ⟨n, rfl⟩ : ∃ n : Nat, a = n := ⟨a.toNat, by omega⟩
  apply Int64.toBitVec_inj.mp
  rw [Int64.toBitVec_and, lZ_bv, lZ_bv, lZ_bv]
  have e : ((n : Int) / 2 ^ (8 * z) * 2 ^ (8 * z)) = ((n / 2 ^ (8 * z) * 2 ^ (8 * z) : Nat) : Int) := by norm_cast
  rw [e]
  apply BitVec.eq_of_getLsbD_eq
  intro i hi
  rw [BitVec.getLsbD_and, neg_bits z hz i hi, BitVec.ofInt_natCast, BitVec.ofInt_natCast, BitVec.getLsbD_ofNat, BitVec.getLsbD_ofNat, Nat.mul_comm (n / 2 ^ (8 * z)), Nat.testBit_two_pow_mul, Nat.testBit_div_two_pow]
  by_cases h : 8 * z ≤ i
  · simp [h, hi, show i - 8 * z + 8 * z = i by omega]
  · simp [h]
end
section
/-! the class Row: N places, of which the first hold a list -/
theorem mkRoom {I J : MI} (h1 : Nat.ble (J.2.2.2.2.1 + 1) I.2.2.2.2.1 = true) (h2 : Nat.ble (8 + (J.2.1 + 11) + J.2.2.2.2.2.1) I.2.2.2.2.2.1 = true) : pRoom I J := ⟨Nat.le_of_ble_eq_true h1, Nat.le_of_ble_eq_true h2⟩
theorem pn_X0 : plainName RX0 = true := by decide +kernel
theorem pn_X1 : plainName RX1 = true := by decide +kernel
theorem pn_X2 : plainName RX2 = true := by decide +kernel
theorem pn_X3 : plainName RX3 = true := by decide +kernel
theorem pn_X4 : plainName RX4 = true := by decide +kernel
theorem pn_X5 : plainName RX5 = true := by decide +kernel
theorem pn_X6 : plainName RX6 = true := by decide +kernel
theorem pn_X7 : plainName RX7 = true := by decide +kernel
theorem pn_X8 : plainName RX8 = true := by decide +kernel
theorem pn_X9 : plainName RX9 = true := by decide +kernel
theorem pn_L : plainName RL = true := by decide +kernel
def Rw (M : pM) (q N : Nat) (xs : List Int) : Prop := ∃ g : Nat → Int, M q = some (ob 6 [.ref (q + 1), vI xs.length]) ∧ M (q + 1) = some (arI N g) ∧ xs.length ≤ N ∧ N < 2147483648 ∧ ∀ (i : Nat) (h : i < xs.length), g i = xs[i]
theorem Rw.obj {M : pM} {q N : Nat} {xs : List Int} (h : Rw M q N xs) : M q = some (ob 6 [.ref (q + 1), vI xs.length]) := by obtain ⟨g, h1, -⟩ := h; exact h1
theorem Rw.len {M : pM} {q N : Nat} {xs : List Int} (h : Rw M q N xs) : xs.length ≤ N ∧ N < 2147483648 := by obtain ⟨g, h1, h2, h3, h4, h5⟩ := h; exact ⟨h3, h4⟩
theorem Rw.off {M M' : pM} {q N lo hi : Nat} {xs : List Int} (h : Rw M q N xs) (ho : Off M M' lo hi) (hd : q + 2 ≤ lo ∨ hi ≤ q) : Rw M' q N xs := by
  obtain ⟨g, h1, h2, h3⟩ := h
  exact ⟨g, (ho q (by omega)).trans h1, (ho (q + 1) (by omega)).trans h2, h3⟩
set_option maxHeartbeats 1000000 in
theorem Row_has {M : pM} {z q N : Nat} {xs : List Int} {k : Int} (h : Rw M q N xs) (hk : -2147483648 ≤ k ∧ k < 2147483648) : CR I_X6_has yX6_has [.ref q, vI k] M z (some (vI (if 0 ≤ k ∧ k < (xs.length : Int) then 1 else 0))) := by
  obtain ⟨g, m_q, m_a, hlen, hN, hg⟩ := id h
  refine C.intro (pl := [some (.ref q), some (vI k)]) pn_X6 rfl (fun h => absurd h (by decide)) rfl (Nat.le_of_ble_eq_true rfl) rfl ?_
  refine g_iload_n dX6_has_0 rfl ?_
  refine z_if_lt (tgt := 25) dX6_has_1 (by decide) (by omega) (fun c1 => ?_) (fun c1 => ?_)
  · refine z_iconst dX6_has_25 ?_
    exact g_zreturn dX6_has_26 rfl (by first | rfl | decide) (Nat.le_of_ble_eq_true rfl) (Nat.le_of_ble_eq_true rfl) ⟨rfl, rfl, by first | (exfalso; omega) | (rw [if_pos (by omega)]) | (rw [if_neg (by omega)])⟩
  · refine g_iload_n dX6_has_4 rfl ?_
    refine g_aload_n dX6_has_5 rfl ?_
    refine z_getf fl_X6_19 dX6_has_6 m_q rfl ?_
    refine z_icmp_ge (tgt := 25) dX6_has_9 (by decide) (by omega) (by omega) (fun c9 => ?_) (fun c9 => ?_)
    · refine z_iconst dX6_has_25 ?_
      exact g_zreturn dX6_has_26 rfl (by first | rfl | decide) (Nat.le_of_ble_eq_true rfl) (Nat.le_of_ble_eq_true rfl) ⟨rfl, rfl, by first | (exfalso; omega) | (rw [if_pos (by omega)]) | (rw [if_neg (by omega)])⟩
    · refine g_iload_n dX6_has_12 rfl ?_
      refine g_aload_n dX6_has_13 rfl ?_
      refine z_getf fl_X6_13 dX6_has_14 m_q rfl ?_
      refine z_alenI dX6_has_17 m_a ?_
      refine z_icmp_ge (tgt := 25) dX6_has_18 (by decide) (by omega) (by omega) (fun c18 => ?_) (fun c18 => ?_)
      · refine z_iconst dX6_has_25 ?_
        exact g_zreturn dX6_has_26 rfl (by first | rfl | decide) (Nat.le_of_ble_eq_true rfl) (Nat.le_of_ble_eq_true rfl) ⟨rfl, rfl, by first | (exfalso; omega) | (rw [if_pos (by omega)]) | (rw [if_neg (by omega)])⟩
      · refine z_iconst dX6_has_21 ?_
        refine g_goto (tgt := 26) dX6_has_22 (by decide) ?_
        exact g_zreturn dX6_has_26 rfl (by first | rfl | decide) (Nat.le_of_ble_eq_true rfl) (Nat.le_of_ble_eq_true rfl) ⟨rfl, rfl, by first | (exfalso; omega) | (rw [if_pos (by omega)]) | (rw [if_neg (by omega)])⟩
theorem Row_has_t {M : pM} {z q N : Nat} {xs : List Int} {k : Int} (h : Rw M q N xs) (hk : 0 ≤ k ∧ k < (xs.length : Int)) : CR I_X6_has yX6_has [.ref q, vI k] M z (some (vI 1)) := by
  have h2 := h.len
  have := Row_has (z := z) h (k := k) (by omega)
  rwa [if_pos hk] at this
theorem Row_has_f {M : pM} {z q N : Nat} {xs : List Int} {k : Int} (h : Rw M q N xs) (hr : -2147483648 ≤ k ∧ k < 2147483648) (hk : ¬ (0 ≤ k ∧ k < (xs.length : Int))) : CR I_X6_has yX6_has [.ref q, vI k] M z (some (vI 0)) := by
  have := Row_has (z := z) h (k := k) hr
  rwa [if_neg hk] at this
set_option maxHeartbeats 1000000 in
theorem Row_item {M : pM} {z q N j : Nat} {xs : List Int} (h : Rw M q N xs) (hj : j < 2147483648) : CR I_X6_item yX6_item [.ref q, vI (j : Int)] M z (some (vI (xs.getD j 0))) := by
  obtain ⟨g, m_q, m_a, hlen, hN, hg⟩ := id h
  refine C.intro (pl := [some (.ref q), some (vI (j : Int))]) pn_X6 rfl (fun h => absurd h (by decide)) rfl (Nat.le_of_ble_eq_true rfl) rfl ?_
  by_cases hc : j < xs.length
  · refine g_aload_n dX6_item_0 rfl ?_
    refine g_iload_n dX6_item_1 rfl ?_
    refine z_callVR dX6_item_2 lm_X6_23 lk_X6_has (Row_has_t h (by omega)) rfl rfl m_q rfl (mkRoom rfl rfl) (Nat.le_of_ble_eq_true rfl) (Nat.le_of_ble_eq_true rfl) (Nat.le_of_ble_eq_true rfl) ?_
    refine z_if_eq (tgt := 17) dX6_item_5 (by decide) (by omega) (fun c5 => absurd c5 (by omega)) (fun c5 => ?_)
    refine g_aload_n dX6_item_8 rfl ?_
    refine z_getf fl_X6_13 dX6_item_9 m_q rfl ?_
    refine g_iload_n dX6_item_12 rfl ?_
    refine z_iaload (j := j) dX6_item_13 m_a (by omega) (by omega) (by omega) ?_
    refine g_goto (tgt := 18) dX6_item_14 (by decide) ?_
    exact g_ireturn dX6_item_18 rfl (Nat.le_of_ble_eq_true rfl) (Nat.le_of_ble_eq_true rfl) ⟨rfl, rfl, by rw [hg j hc, List.getD_eq_getElem?_getD, List.getElem?_eq_getElem hc]; rfl⟩
  · refine g_aload_n dX6_item_0 rfl ?_
    refine g_iload_n dX6_item_1 rfl ?_
    refine z_callVR dX6_item_2 lm_X6_23 lk_X6_has (Row_has_f h (by omega) (by omega)) rfl rfl m_q rfl (mkRoom rfl rfl) (Nat.le_of_ble_eq_true rfl) (Nat.le_of_ble_eq_true rfl) (Nat.le_of_ble_eq_true rfl) ?_
    refine z_if_eq (tgt := 17) dX6_item_5 (by decide) (by omega) (fun c5 => ?_) (fun c5 => absurd c5 (by omega))
    refine z_iconst dX6_item_17 ?_
    exact g_ireturn dX6_item_18 rfl (Nat.le_of_ble_eq_true rfl) (Nat.le_of_ble_eq_true rfl) ⟨rfl, rfl, by rw [List.getD_eq_getElem?_getD, List.getElem?_eq_none (by omega)]; rfl⟩
set_option maxHeartbeats 1000000 in
theorem Row_put {M : pM} {z q N j : Nat} {xs : List Int} {v : Int} (h : Rw M q N xs) (hj : j < 2147483648) : CW I_X6_put yX6_put [.ref q, vI (j : Int), vI v] M z (fun M' r => r = none ∧ Rw M' q N (xs.set j v) ∧ Off M M' q (q + 2)) := by
  obtain ⟨g, m_q, m_a, hlen, hN, hg⟩ := id h
  have fr : Off M M q (q + 2) := Off.rf
  refine C.intro (pl := [some (.ref q), some (vI (j : Int)), some (vI v)]) pn_X6 rfl (fun h => absurd h (by decide)) rfl (Nat.le_of_ble_eq_true rfl) rfl ?_
  by_cases hc : j < xs.length
  · refine g_aload_n dX6_put_0 rfl ?_
    refine g_iload_n dX6_put_1 rfl ?_
    refine z_callVR dX6_put_2 lm_X6_23 lk_X6_has (Row_has_t h (by omega)) rfl rfl m_q rfl (mkRoom rfl rfl) (Nat.le_of_ble_eq_true rfl) (Nat.le_of_ble_eq_true rfl) (Nat.le_of_ble_eq_true rfl) ?_
    refine z_if_eq (tgt := 15) dX6_put_5 (by decide) (by omega) (fun c5 => absurd c5 (by omega)) (fun c5 => ?_)
    refine g_aload_n dX6_put_8 rfl ?_
    refine z_getf fl_X6_13 dX6_put_9 m_q rfl ?_
    refine g_iload_n dX6_put_12 rfl ?_
    refine g_iload_n dX6_put_13 rfl ?_
    refine z_iastore (j := j) dX6_put_14 m_a (by omega) (by omega) (by omega) (fun M m_a o => ?_)
    have m_q := (o _ (by omega)).trans m_q
    have fr := fr.one o (by omega)
    refine g_return dX6_put_15 rfl (Nat.le_of_ble_eq_true rfl) (Nat.le_of_ble_eq_true rfl) ⟨rfl, rfl, ⟨upZ g j v, by rw [List.length_set]; exact m_q, m_a, by rw [List.length_set]; exact hlen, hN, fun i hi => ?_⟩, fr⟩
    rw [List.getElem_set]
    rw [List.length_set] at hi
    by_cases hij : j = i
    · subst hij; rw [if_pos rfl, upZ_s]
    · rw [if_neg hij, upZ_n (Ne.symm hij)]; exact hg i hi
  · refine g_aload_n dX6_put_0 rfl ?_
    refine g_iload_n dX6_put_1 rfl ?_
    refine z_callVR dX6_put_2 lm_X6_23 lk_X6_has (Row_has_f h (by omega) (by omega)) rfl rfl m_q rfl (mkRoom rfl rfl) (Nat.le_of_ble_eq_true rfl) (Nat.le_of_ble_eq_true rfl) (Nat.le_of_ble_eq_true rfl) ?_
    refine z_if_eq (tgt := 15) dX6_put_5 (by decide) (by omega) (fun c5 => ?_) (fun c5 => absurd c5 (by omega))
    exact g_return dX6_put_15 rfl (Nat.le_of_ble_eq_true rfl) (Nat.le_of_ble_eq_true rfl) ⟨rfl, rfl, by rw [List.set_eq_of_length_le (by omega)]; exact h, fr⟩
set_option maxHeartbeats 1000000 in
theorem Row_push {M : pM} {z q N : Nat} {xs : List Int} {v : Int} (h : Rw M q N xs) : CW I_X6_push yX6_push [.ref q, vI v] M z (fun M' r => r = none ∧ Rw M' q N (if xs.length < N then xs ++ [v] else xs) ∧ Off M M' q (q + 2)) := by
  obtain ⟨g, m_q, m_a, hlen, hN, hg⟩ := id h
  have fr : Off M M q (q + 2) := Off.rf
  refine C.intro (pl := [some (.ref q), some (vI v)]) pn_X6 rfl (fun h => absurd h (by decide)) rfl (Nat.le_of_ble_eq_true rfl) rfl ?_
  by_cases hc : xs.length < N
  · refine g_aload_n dX6_push_0 rfl ?_
    refine z_getf fl_X6_19 dX6_push_1 m_q rfl ?_
    refine z_if_lt (tgt := 39) dX6_push_4 (by decide) (by omega) (fun c4 => absurd c4 (by omega)) (fun c4 => ?_)
    refine g_aload_n dX6_push_7 rfl ?_
    refine z_getf fl_X6_19 dX6_push_8 m_q rfl ?_
    refine g_aload_n dX6_push_11 rfl ?_
    refine z_getf fl_X6_13 dX6_push_12 m_q rfl ?_
    refine z_alenI dX6_push_15 m_a ?_
    refine z_icmp_ge (tgt := 39) dX6_push_16 (by decide) (by omega) (by omega) (fun c16 => absurd c16 (by omega)) (fun c16 => ?_)
    refine g_aload_n dX6_push_19 rfl ?_
    refine z_getf fl_X6_13 dX6_push_20 m_q rfl ?_
    refine g_aload_n dX6_push_23 rfl ?_
    refine z_getf fl_X6_19 dX6_push_24 m_q rfl ?_
    refine g_iload_n dX6_push_27 rfl ?_
    refine z_iastore (j := xs.length) dX6_push_28 m_a (by omega) (by omega) (by omega) (fun M m_a o => ?_)
    have m_q := (o _ (by omega)).trans m_q
    have fr := fr.one o (by omega)
    refine g_aload_n dX6_push_29 rfl ?_
    refine g_dup dX6_push_30 rfl ?_
    refine z_getf fl_X6_19 dX6_push_31 m_q rfl ?_
    refine z_iconst dX6_push_34 ?_
    refine z_iadd dX6_push_35 ?_
    refine z_putf fl_X6_19 dX6_push_36 m_q rfl (Nat.le_of_ble_eq_true rfl) rfl rfl (fun M m_q o => ?_)
    have m_a := (o _ (by omega)).trans m_a
    have fr := fr.one o (by omega)
    refine g_return dX6_push_39 rfl (Nat.le_of_ble_eq_true rfl) (Nat.le_of_ble_eq_true rfl) ⟨rfl, rfl, ?_, fr⟩
    rw [if_pos hc]
    refine ⟨upZ g xs.length v, by rw [List.length_append]; exact m_q, m_a, by rw [List.length_append]; simp; omega, hN, fun i hi => ?_⟩
    rw [List.length_append] at hi
    simp only [List.length_cons, List.length_nil] at hi
    by_cases hij : i = xs.length
    · subst hij; rw [upZ_s]; simp
    · rw [upZ_n hij, List.getElem_append_left (by omega)]; exact hg i (by omega)
  · refine g_aload_n dX6_push_0 rfl ?_
    refine z_getf fl_X6_19 dX6_push_1 m_q rfl ?_
    refine z_if_lt (tgt := 39) dX6_push_4 (by decide) (by omega) (fun c4 => absurd c4 (by omega)) (fun c4 => ?_)
    refine g_aload_n dX6_push_7 rfl ?_
    refine z_getf fl_X6_19 dX6_push_8 m_q rfl ?_
    refine g_aload_n dX6_push_11 rfl ?_
    refine z_getf fl_X6_13 dX6_push_12 m_q rfl ?_
    refine z_alenI dX6_push_15 m_a ?_
    refine z_icmp_ge (tgt := 39) dX6_push_16 (by decide) (by omega) (by omega) (fun c16 => ?_) (fun c16 => absurd c16 (by omega))
    exact g_return dX6_push_39 rfl (Nat.le_of_ble_eq_true rfl) (Nat.le_of_ble_eq_true rfl) ⟨rfl, rfl, by rw [if_neg hc]; exact h, fr⟩
set_option maxHeartbeats 1000000 in
theorem Row_drop {M : pM} {z q N j : Nat} {xs : List Int} (h : Rw M q N xs) (hj : j < 2147483648) : CW I_X6_drop yX6_drop [.ref q, vI (j : Int)] M z (fun M' r => r = none ∧ Rw M' q N (xs.take (xs.length - j)) ∧ Off M M' q (q + 2)) := by
  obtain ⟨g, m_q, m_a, hlen, hN, hg⟩ := id h
  have fr : Off M M q (q + 2) := Off.rf
  refine C.intro (pl := [some (.ref q), some (vI (j : Int))]) pn_X6 rfl (fun h => absurd h (by decide)) rfl (Nat.le_of_ble_eq_true rfl) rfl ?_
  refine g_aload_n dX6_drop_0 rfl ?_
  refine g_dup dX6_drop_1 rfl ?_
  refine z_getf fl_X6_19 dX6_drop_2 m_q rfl ?_
  refine z_iconst dX6_drop_5 ?_
  refine g_iload_n dX6_drop_6 rfl ?_
  refine g_aload_n dX6_drop_7 rfl ?_
  refine z_getf fl_X6_19 dX6_drop_8 m_q rfl ?_
  refine z_min lj_X6_27 dX6_drop_11 ⟨(Nat.le_of_ble_eq_true rfl), (Nat.le_of_ble_eq_true rfl)⟩ (Nat.le_of_ble_eq_true rfl) (Nat.le_of_ble_eq_true rfl) (by omega) (by omega) ?_
  refine z_max lj_X6_7 dX6_drop_14 ⟨(Nat.le_of_ble_eq_true rfl), (Nat.le_of_ble_eq_true rfl)⟩ (Nat.le_of_ble_eq_true rfl) (Nat.le_of_ble_eq_true rfl) (by omega) (by omega) ?_
  refine z_isub dX6_drop_17 ?_
  refine z_putf fl_X6_19 dX6_drop_18 m_q rfl (Nat.le_of_ble_eq_true rfl) rfl rfl (fun M m_q o => ?_)
  have m_a := (o _ (by omega)).trans m_a
  have fr := fr.one o (by omega)
  refine g_return dX6_drop_21 rfl (Nat.le_of_ble_eq_true rfl) (Nat.le_of_ble_eq_true rfl) ⟨rfl, rfl, ⟨g, ?_, m_a, by rw [List.length_take]; omega, hN, fun i hi => ?_⟩, fr⟩
  · rw [m_q]
    have e : ((List.take (xs.length - j) xs).length : Int) = (xs.length : Int) - max 0 (min (j : Int) (xs.length : Int)) := by rw [List.length_take]; omega
    rw [e]; rfl
  · rw [List.length_take] at hi
    rw [List.getElem_take]; exact hg i (by omega)
set_option maxHeartbeats 1000000 in
theorem Row_clear {M : pM} {z q N : Nat} {xs : List Int} (h : Rw M q N xs) : CW I_X6_clear yX6_clear [.ref q] M z (fun M' r => r = none ∧ Rw M' q N [] ∧ Off M M' q (q + 2)) := by
  obtain ⟨g, m_q, m_a, hlen, hN, hg⟩ := id h
  have fr : Off M M q (q + 2) := Off.rf
  refine C.intro (pl := [some (.ref q)]) pn_X6 rfl (fun h => absurd h (by decide)) rfl (Nat.le_of_ble_eq_true rfl) rfl ?_
  refine g_aload_n dX6_clear_0 rfl ?_
  refine z_iconst dX6_clear_1 ?_
  refine z_putf fl_X6_19 dX6_clear_2 m_q rfl (Nat.le_of_ble_eq_true rfl) rfl rfl (fun M m_q o => ?_)
  have m_a := (o _ (by omega)).trans m_a
  have fr := fr.one o (by omega)
  exact g_return dX6_clear_5 rfl (Nat.le_of_ble_eq_true rfl) (Nat.le_of_ble_eq_true rfl) ⟨rfl, rfl, ⟨g, m_q, m_a, by simp, hN, fun i hi => by simp at hi⟩, fr⟩
set_option maxHeartbeats 1000000 in
theorem Row_take {M : pM} {z q p N N2 : Nat} {xs ys : List Int} (h : Rw M q N xs) (h2 : Rw M p N2 ys) (hd : q + 2 ≤ p ∨ p + 2 ≤ q) (hf : ys.length ≤ N) : CW I_X6_take yX6_take [.ref q, .ref p] M z (fun M' r => r = none ∧ Rw M' q N ys ∧ Off M M' q (q + 2)) := by
  obtain ⟨g, m_q, m_a, hlen, hN, hg⟩ := id h
  obtain ⟨g2, m_p, m_b, hlen2, hN2, hg2⟩ := id h2
  have fr : Off M M q (q + 2) := Off.rf
  refine C.intro (pl := [some (.ref q), some (.ref p), none]) pn_X6 rfl (fun h => absurd h (by decide)) rfl (Nat.le_of_ble_eq_true rfl) rfl ?_
  refine g_aload_n dX6_take_0 rfl ?_
  refine z_getf fl_X6_19 dX6_take_1 m_p rfl ?_
  refine g_aload_n dX6_take_4 rfl ?_
  refine z_getf fl_X6_13 dX6_take_5 m_p rfl ?_
  refine z_alenI dX6_take_8 m_b ?_
  refine g_aload_n dX6_take_9 rfl ?_
  refine z_getf fl_X6_13 dX6_take_10 m_q rfl ?_
  refine z_alenI dX6_take_13 m_a ?_
  refine z_min lj_X6_27 dX6_take_14 ⟨(Nat.le_of_ble_eq_true rfl), (Nat.le_of_ble_eq_true rfl)⟩ (Nat.le_of_ble_eq_true rfl) (Nat.le_of_ble_eq_true rfl) (by omega) (by omega) ?_
  refine z_min lj_X6_27 dX6_take_17 ⟨(Nat.le_of_ble_eq_true rfl), (Nat.le_of_ble_eq_true rfl)⟩ (Nat.le_of_ble_eq_true rfl) (Nat.le_of_ble_eq_true rfl) (by omega) (by omega) ?_
  refine g_istore_n dX6_take_20 rfl (Nat.le_of_ble_eq_true rfl) ?_
  refine g_aload_n dX6_take_21 rfl ?_
  refine z_getf fl_X6_13 dX6_take_22 m_p rfl ?_
  refine z_iconst dX6_take_25 ?_
  refine g_aload_n dX6_take_26 rfl ?_
  refine z_getf fl_X6_13 dX6_take_27 m_q rfl ?_
  refine z_iconst dX6_take_30 ?_
  refine g_iload_n dX6_take_31 rfl ?_
  refine z_copy (jn := ys.length) lc_X6_30 dX6_take_32 ⟨(Nat.le_of_ble_eq_true rfl), (Nat.le_of_ble_eq_true rfl)⟩ m_b m_a (js := 0) (jd := 0) (by omega) (by omega) (by omega) (by omega) (by omega) (by omega) (by omega) (fun M m_a o => ?_)
  have m_q := (o _ (by omega)).trans m_q
  have m_p := (o _ (by omega)).trans m_p
  have m_b := (o _ (by omega)).trans m_b
  have fr := fr.one o (by omega)
  refine g_aload_n dX6_take_35 rfl ?_
  refine g_iload_n dX6_take_36 rfl ?_
  refine z_putf fl_X6_19 dX6_take_37 m_q rfl (Nat.le_of_ble_eq_true rfl) rfl rfl (fun M m_q o => ?_)
  have m_a := (o _ (by omega)).trans m_a
  have m_p := (o _ (by omega)).trans m_p
  have m_b := (o _ (by omega)).trans m_b
  have fr := fr.one o (by omega)
  refine g_return dX6_take_40 rfl (Nat.le_of_ble_eq_true rfl) (Nat.le_of_ble_eq_true rfl) ⟨rfl, rfl, ⟨cpZ g2 g 0 0 ys.length, ?_, m_a, hf, hN, fun i hi => ?_⟩, fr⟩
  · rw [m_q]
    have e : min (ys.length : Int) (min (N2 : Int) (N : Int)) = (ys.length : Int) := by omega
    rw [e]; rfl
  · show cpZ g2 g 0 0 ys.length i = _
    unfold cpZ
    rw [if_pos (by omega)]
    simpa using hg2 i hi
set_option maxHeartbeats 1000000 in
theorem Row_same {M : pM} {z q p N N2 : Nat} {xs ys : List Int} (h : Rw M q N xs) (h2 : Rw M p N2 ys) (hx : ∀ x ∈ xs, -2147483648 ≤ x ∧ x < 2147483648) (hy : ∀ y ∈ ys, -2147483648 ≤ y ∧ y < 2147483648) : CR I_X6_same yX6_same [.ref q, .ref p] M z (some (vI (if xs = ys then 1 else 0))) := by
  obtain ⟨g, m_q, m_a, hlen, hN, hg⟩ := id h
  obtain ⟨g2, m_p, m_b, hlen2, hN2, hg2⟩ := id h2
  refine C.intro (pl := [some (.ref q), some (.ref p), none]) pn_X6 rfl (fun h => absurd h (by decide)) rfl (Nat.le_of_ble_eq_true rfl) rfl ?_
  have hgd : ∀ (l : List Int) (i : Nat), (∀ x ∈ l, -2147483648 ≤ x ∧ x < 2147483648) → -2147483648 ≤ l.getD i 0 ∧ l.getD i 0 < 2147483648 := by
    intro l i hl
    by_cases hi : i < l.length
    · rw [List.getD_eq_getElem?_getD, List.getElem?_eq_getElem hi]; exact hl _ (List.getElem_mem hi)
    · rw [List.getD_eq_getElem?_getD, List.getElem?_eq_none (by omega)]; simp
  have loop : xs.length = ys.length → ∀ (n i : Nat), i ≤ xs.length → xs.length - i = n → xs.take i = ys.take i → G I_X6_same 0 0 (fun M' z' r' => M' = M ∧ z' = z ∧ r' = some (vI (if xs = ys then 1 else 0))) 0 0 15 [some (.ref q), some (.ref p), some (vI (i : Int))] [] M z := by
    intro hl n
    induction n with
    | zero =>
      intro i hi hn ht
      refine g_iload_n dX6_same_15 rfl ?_
      refine g_aload_n dX6_same_16 rfl ?_
      refine z_getf fl_X6_19 dX6_same_17 m_q rfl ?_
      refine z_icmp_ge (tgt := 44) dX6_same_20 (by decide) (by omega) (by omega) (fun c20 => ?_) (fun c20 => absurd c20 (by omega))
      refine z_iconst dX6_same_44 ?_
      exact g_zreturn dX6_same_45 rfl (by first | rfl | decide) (Nat.le_of_ble_eq_true rfl) (Nat.le_of_ble_eq_true rfl) ⟨rfl, rfl, by rw [if_pos (by rw [List.take_of_length_le (by omega), List.take_of_length_le (by omega)] at ht; exact ht)]⟩
    | succ n ih =>
      intro i hi hn ht
      have hb1 := hgd xs i hx
      have hb2 := hgd ys i hy
      refine g_iload_n dX6_same_15 rfl ?_
      refine g_aload_n dX6_same_16 rfl ?_
      refine z_getf fl_X6_19 dX6_same_17 m_q rfl ?_
      refine z_icmp_ge (tgt := 44) dX6_same_20 (by decide) (by omega) (by omega) (fun c20 => absurd c20 (by omega)) (fun c20 => ?_)
      refine g_aload_n dX6_same_23 rfl ?_
      refine g_iload_n dX6_same_24 rfl ?_
      refine z_callVR dX6_same_25 lm_X6_36 lk_X6_item (Row_item h (by omega)) rfl rfl m_q rfl (mkRoom rfl rfl) (Nat.le_of_ble_eq_true rfl) (Nat.le_of_ble_eq_true rfl) (Nat.le_of_ble_eq_true rfl) ?_
      refine g_aload_n dX6_same_28 rfl ?_
      refine g_iload_n dX6_same_29 rfl ?_
      refine z_callVR dX6_same_30 lm_X6_36 lk_X6_item (Row_item h2 (by omega)) rfl rfl m_p rfl (mkRoom rfl rfl) (Nat.le_of_ble_eq_true rfl) (Nat.le_of_ble_eq_true rfl) (Nat.le_of_ble_eq_true rfl) ?_
      refine z_icmp_eq (tgt := 38) dX6_same_33 (by decide) (by omega) (by omega) (fun c33 => ?_) (fun c33 => ?_)
      · refine z_iinc dX6_same_38 rfl (Nat.le_of_ble_eq_true rfl) ?_
        refine g_goto (tgt := 15) dX6_same_41 (by decide) ?_
        exact ih (i + 1) (by omega) (by omega) (by rw [List.take_succ, List.take_succ, ht]; congr 1; rw [List.getElem?_eq_getElem (by omega), List.getElem?_eq_getElem (by omega)]; simpa [List.getD_eq_getElem?_getD, List.getElem?_eq_getElem (show i < xs.length by omega), List.getElem?_eq_getElem (show i < ys.length by omega)] using c33)
      · refine z_iconst dX6_same_36 ?_
        exact g_zreturn dX6_same_37 rfl (by first | rfl | decide) (Nat.le_of_ble_eq_true rfl) (Nat.le_of_ble_eq_true rfl) ⟨rfl, rfl, by rw [if_neg (fun e => c33 (by rw [e]))]⟩
  refine g_aload_n dX6_same_0 rfl ?_
  refine z_getf fl_X6_19 dX6_same_1 m_q rfl ?_
  refine g_aload_n dX6_same_4 rfl ?_
  refine z_getf fl_X6_19 dX6_same_5 m_p rfl ?_
  refine z_icmp_eq (tgt := 13) dX6_same_8 (by decide) (by omega) (by omega) (fun c8 => ?_) (fun c8 => ?_)
  · refine z_iconst dX6_same_13 ?_
    refine g_istore_n dX6_same_14 rfl (Nat.le_of_ble_eq_true rfl) ?_
    exact loop (by omega) xs.length 0 (Nat.zero_le _) (by omega) rfl
  · refine z_iconst dX6_same_11 ?_
    exact g_zreturn dX6_same_12 rfl (by first | rfl | decide) (Nat.le_of_ble_eq_true rfl) (Nat.le_of_ble_eq_true rfl) ⟨rfl, rfl, by rw [if_neg (fun e => c8 (by rw [e]))]⟩
end
section
/-! the class Model: a table of contexts: a key, and a count for each of 96 symbols -/
abbrev tbl : Type := List (Int × (Nat → Int))
def sm (c : Nat → Int) : Nat → Int
  | 0 => 0
  | n + 1 => sm c n + c n
def wt (c : Nat → Int) : Int := sm c 96
def kn (c : Nat → Int) : Int := sm (fun s => if 0 < c s then 1 else 0) 96
theorem sm_cong {c d : Nat → Int} : ∀ {n : Nat}, (∀ s, s < n → c s = d s) → sm c n = sm d n
  | 0, _ => rfl
  | n + 1, h => by rw [sm, sm, sm_cong (fun s hs => h s (by omega)), h n (by omega)]
theorem sm_nn {c : Nat → Int} : ∀ {n : Nat}, (∀ s, s < n → 0 ≤ c s) → 0 ≤ sm c n
  | 0, _ => by simp [sm]
  | n + 1, h => by rw [sm]; have := sm_nn (n := n) (fun s hs => h s (by omega)); have := h n (by omega); omega
theorem sm_mono {c : Nat → Int} : ∀ {n m : Nat}, m ≤ n → (∀ s, s < n → 0 ≤ c s) → sm c m ≤ sm c n
  | 0, m, hm, _ => by rw [show m = 0 by omega]; exact Int.le_refl _
  | n + 1, m, hm, h => by
    by_cases e : m = n + 1
    · rw [e]; exact Int.le_refl _
    · rw [sm]; have := sm_mono (n := n) (m := m) (by omega) (fun s hs => h s (by omega)); have := h n (by omega); omega
theorem sm_le {c : Nat → Int} {n s : Nat} (hs : s < n) (h : ∀ s, s < n → 0 ≤ c s) : c s ≤ sm c n := by
  have h1 := sm_mono (c := c) (n := n) (m := s + 1) (by omega) h
  have h2 := sm_nn (c := c) (n := s) (fun x hx => h x (by omega))
  rw [sm] at h1
  omega
theorem sm_up {c : Nat → Int} {s : Nat} {v : Int} : ∀ {n : Nat}, s < n → sm (upZ c s v) n = sm c n - c s + v
  | 0, h => by omega
  | n + 1, h => by
    rw [sm, sm]
    by_cases e : s = n
    · subst e
      rw [upZ_s, sm_cong (c := upZ c s v) (d := c) (fun x hx => upZ_n (by omega))]; omega
    · rw [sm_up (by omega), upZ_n (by omega)]; omega
theorem sm_half {c : Nat → Int} : ∀ {n : Nat}, 2 * sm (fun s => (c s + 1) / 2) n ≤ sm c n + n
  | 0 => by simp [sm]
  | n + 1 => by rw [sm, sm]; have := sm_half (c := c) (n := n); push_cast; omega
theorem sm_01 {p : Nat → Int} (h : ∀ s, p s = 0 ∨ p s = 1) : ∀ {n : Nat}, 0 ≤ sm p n ∧ sm p n ≤ n
  | 0 => by simp [sm]
  | n + 1 => by rw [sm]; have := sm_01 h (n := n); have := h n; push_cast; omega
theorem kn_01 (c : Nat → Int) (s : Nat) : (fun s => if 0 < c s then (1 : Int) else 0) s = 0 ∨ (fun s => if 0 < c s then (1 : Int) else 0) s = 1 := by
  show (if 0 < c s then (1 : Int) else 0) = 0 ∨ (if 0 < c s then (1 : Int) else 0) = 1
  split
  · exact Or.inr rfl
  · exact Or.inl rfl
theorem kn_rng (c : Nat → Int) : 0 ≤ kn c ∧ kn c ≤ 96 := by have := sm_01 (kn_01 c) (n := 96); unfold kn; omega
def okE (e : Int × (Nat → Int)) : Prop := (0 ≤ e.1 ∧ e.1 < 2147483648) ∧ (∀ s, s < 96 → 0 ≤ e.2 s) ∧ wt e.2 ≤ 1010
theorem okE.cnt {e : Int × (Nat → Int)} (h : okE e) {s : Nat} (hs : s < 96) : 0 ≤ e.2 s ∧ e.2 s ≤ 1010 := ⟨h.2.1 s hs, by have := sm_le hs h.2.1; have := h.2.2; unfold wt at this; omega⟩
def Md (M : pM) (mo : Nat) (t : tbl) : Prop := ∃ gk gw gn gc : Nat → Int, M mo = some (ob 4 [vI t.length, .ref (mo + 1), .ref (mo + 2), .ref (mo + 3), .ref (mo + 4)]) ∧ M (mo + 1) = some (arI 250 gk) ∧ M (mo + 2) = some (arI 250 gw) ∧ M (mo + 3) = some (arI 250 gn) ∧ M (mo + 4) = some (arI 24000 gc) ∧ t.length ≤ 250 ∧ (∀ e ∈ t, okE e) ∧ ∀ (i : Nat) (h : i < t.length), gk i = t[i].1 ∧ gw i = wt t[i].2 ∧ gn i = kn t[i].2 ∧ ∀ s, s < 96 → gc (i * 96 + s) = t[i].2 s
theorem Md.obj {M : pM} {mo : Nat} {t : tbl} (h : Md M mo t) : M mo = some (ob 4 [vI t.length, .ref (mo + 1), .ref (mo + 2), .ref (mo + 3), .ref (mo + 4)]) := by obtain ⟨gk, gw, gn, gc, h1, -⟩ := h; exact h1
theorem Md.len {M : pM} {mo : Nat} {t : tbl} (h : Md M mo t) : t.length ≤ 250 := by obtain ⟨gk, gw, gn, gc, h1, h2, h3, h4, h5, h6, -⟩ := h; exact h6
theorem Md.ok {M : pM} {mo : Nat} {t : tbl} (h : Md M mo t) : ∀ e ∈ t, okE e := by obtain ⟨gk, gw, gn, gc, h1, h2, h3, h4, h5, h6, h7, -⟩ := h; exact h7
theorem Md.off {M M' : pM} {mo lo hi : Nat} {t : tbl} (h : Md M mo t) (ho : Off M M' lo hi) (hd : mo + 5 ≤ lo ∨ hi ≤ mo) : Md M' mo t := by
  obtain ⟨gk, gw, gn, gc, h1, h2, h3, h4, h5, h6⟩ := h
  exact ⟨gk, gw, gn, gc, (ho _ (by omega)).trans h1, (ho _ (by omega)).trans h2, (ho _ (by omega)).trans h3, (ho _ (by omega)).trans h4, (ho _ (by omega)).trans h5, h6⟩
def fnd (t : tbl) (k : Int) : Int := match t.findIdx? (fun e => decide (e.1 = k)) with
  | some i => i
  | none => -1
theorem fnd_at {t : tbl} {k : Int} {i : Nat} (h : i < t.length) (he : t[i].1 = k) (hn : ∀ (j : Nat) (hj : j < i), (t[j]'(by omega)).1 ≠ k) : fnd t k = i := by
  unfold fnd
  rw [List.findIdx?_eq_some_iff_getElem.mpr ⟨h, by simpa using he, fun j hj => by simpa using hn j hj⟩]
theorem fnd_no {t : tbl} {k : Int} (hn : ∀ (j : Nat) (hj : j < t.length), t[j].1 ≠ k) : fnd t k = -1 := by
  unfold fnd
  rw [List.findIdx?_eq_none_iff.mpr (fun e he => by
    obtain ⟨j, hj, rfl⟩ := List.getElem_of_mem he
    simpa using hn j hj)]
theorem fnd_cases (t : tbl) (k : Int) : (fnd t k = -1 ∧ ∀ (j : Nat) (hj : j < t.length), t[j].1 ≠ k) ∨ ∃ (i : Nat) (h : i < t.length), fnd t k = i ∧ t[i].1 = k := by
  unfold fnd
  cases hf : t.findIdx? (fun e => decide (e.1 = k)) with
  | none =>
    refine Or.inl ⟨rfl, fun j hj e => ?_⟩
    have := List.findIdx?_eq_none_iff.mp hf _ (List.getElem_mem hj)
    simp at this
    exact this e
  | some i =>
    obtain ⟨h1, h2, -⟩ := List.findIdx?_eq_some_iff_getElem.mp hf
    exact Or.inr ⟨i, h1, rfl, by simpa using h2⟩
/-- the row of a key, met if there is room -/
def met (t : tbl) (k : Int) : tbl × Int := if 0 ≤ fnd t k ∨ 250 ≤ t.length then (t, fnd t k) else (t ++ [(k, fun _ => 0)], t.length)
/-- a count grows; halving, if the weight passes the limit -/
def grw (c : Nat → Int) (s : Nat) (step limit : Int) : Nat → Int := if wt (upZ c s (c s + step)) > limit then fun x => (upZ c s (c s + step) x + 1) / 2 else upZ c s (c s + step)
def rse (t : tbl) (i s : Nat) (step limit : Int) : tbl := match t[i]? with
  | some e => t.set i (e.1, grw e.2 s step limit)
  | none => t
set_option maxHeartbeats 1000000 in
theorem Md_clear {M : pM} {z mo : Nat} {t : tbl} (h : Md M mo t) : CW I_X4_clear yX4_clear [.ref mo] M z (fun M' r => r = none ∧ Md M' mo [] ∧ Off M M' mo (mo + 5)) := by
  obtain ⟨gk, gw, gn, gc, m_o, m_k, m_w, m_n, m_c, hlen, hok, hg⟩ := id h
  have fr : Off M M mo (mo + 5) := Off.rf
  refine C.intro (pl := [some (.ref mo)]) pn_X4 rfl (fun h => absurd h (by decide)) rfl (Nat.le_of_ble_eq_true rfl) rfl ?_
  refine g_aload_n dX4_clear_0 rfl ?_
  refine z_iconst dX4_clear_1 ?_
  refine z_putf fl_X4_24 dX4_clear_2 m_o rfl (Nat.le_of_ble_eq_true rfl) rfl rfl (fun M m_o o => ?_)
  have m_k := (o _ (by omega)).trans m_k
  have m_w := (o _ (by omega)).trans m_w
  have m_n := (o _ (by omega)).trans m_n
  have m_c := (o _ (by omega)).trans m_c
  have fr := fr.one o (by omega)
  exact g_return dX4_clear_5 rfl (Nat.le_of_ble_eq_true rfl) (Nat.le_of_ble_eq_true rfl) ⟨rfl, rfl, ⟨gk, gw, gn, gc, m_o, m_k, m_w, m_n, m_c, by simp, by simp, fun i hi => by simp at hi⟩, fr⟩
set_option maxHeartbeats 1000000 in
theorem Md_find {M : pM} {z mo : Nat} {t : tbl} {k : Int} (h : Md M mo t) (hk : -2147483648 ≤ k ∧ k < 2147483648) : CR I_X4_find yX4_find [.ref mo, vI k] M z (some (vI (fnd t k))) := by
  obtain ⟨gk, gw, gn, gc, m_o, m_k, m_w, m_n, m_c, hlen, hok, hg⟩ := id h
  refine C.intro (pl := [some (.ref mo), some (vI k), none]) pn_X4 rfl (fun h => absurd h (by decide)) rfl (Nat.le_of_ble_eq_true rfl) rfl ?_
  have loop : ∀ (n i : Nat), i ≤ t.length → t.length - i = n → (∀ (j : Nat) (hj : j < t.length), j < i → t[j].1 ≠ k) → G I_X4_find 0 0 (fun M' z' r' => M' = M ∧ z' = z ∧ r' = some (vI (fnd t k))) 0 0 2 [some (.ref mo), some (vI k), some (vI (i : Int))] [] M z := by
    intro n
    induction n with
    | zero =>
      intro i hi hn hj
      refine g_iload_n dX4_find_2 rfl ?_
      refine g_aload_n dX4_find_3 rfl ?_
      refine z_getf fl_X4_24 dX4_find_4 m_o rfl ?_
      refine z_icmp_ge (tgt := 37) dX4_find_7 (by decide) (by omega) (by omega) (fun c7 => ?_) (fun c7 => absurd c7 (by omega))
      refine z_iconst dX4_find_37 ?_
      exact g_ireturn dX4_find_38 rfl (Nat.le_of_ble_eq_true rfl) (Nat.le_of_ble_eq_true rfl) ⟨rfl, rfl, by rw [fnd_no (fun j h => hj j h (by omega))]⟩
    | succ n ih =>
      intro i hi hn hj
      have hi2 : i < t.length := by omega
      have hb := (hok _ (List.getElem_mem hi2)).1
      have hgi := (hg i hi2).1
      refine g_iload_n dX4_find_2 rfl ?_
      refine g_aload_n dX4_find_3 rfl ?_
      refine z_getf fl_X4_24 dX4_find_4 m_o rfl ?_
      refine z_icmp_ge (tgt := 37) dX4_find_7 (by decide) (by omega) (by omega) (fun c7 => absurd c7 (by omega)) (fun c7 => ?_)
      refine g_iload_n dX4_find_10 rfl ?_
      refine g_aload_n dX4_find_11 rfl ?_
      refine z_getf fl_X4_9 dX4_find_12 m_o rfl ?_
      refine z_alenI dX4_find_15 m_k ?_
      refine z_icmp_ge (tgt := 37) dX4_find_16 (by decide) (by omega) (by omega) (fun c16 => absurd c16 (by omega)) (fun c16 => ?_)
      refine g_aload_n dX4_find_19 rfl ?_
      refine z_getf fl_X4_9 dX4_find_20 m_o rfl ?_
      refine g_iload_n dX4_find_23 rfl ?_
      refine z_iaload (j := i) dX4_find_24 m_k (by omega) (by omega) (by omega) ?_
      refine g_iload_n dX4_find_25 rfl ?_
      refine z_icmp_ne (tgt := 31) dX4_find_26 (by decide) (by omega) (by omega) (fun c26 => ?_) (fun c26 => ?_)
      · refine z_iinc dX4_find_31 rfl (Nat.le_of_ble_eq_true rfl) ?_
        refine g_goto (tgt := 2) dX4_find_34 (by decide) ?_
        exact ih (i + 1) (by omega) (by omega) (fun j h1 h2 => by
          by_cases e : j = i
          · subst e; rw [← hgi]; exact c26
          · exact hj j h1 (by omega))
      · refine g_iload_n dX4_find_29 rfl ?_
        exact g_ireturn dX4_find_30 rfl (Nat.le_of_ble_eq_true rfl) (Nat.le_of_ble_eq_true rfl) ⟨rfl, rfl, by rw [fnd_at hi2 (hgi.symm.trans c26) (fun j h2 => hj j (by omega) h2)]⟩
  refine z_iconst dX4_find_0 ?_
  refine g_istore_n dX4_find_1 rfl (Nat.le_of_ble_eq_true rfl) ?_
  exact loop t.length 0 (Nat.zero_le _) (by omega) (fun j _ h => absurd h (Nat.not_lt_zero _))
set_option maxHeartbeats 1000000 in
theorem Md_has {M : pM} {z mo i : Nat} {t : tbl} (h : Md M mo t) (hi : i < t.length) : CR I_X4_has yX4_has [.ref mo, vI (i : Int)] M z (some (vI 1)) := by
  obtain ⟨gk, gw, gn, gc, m_o, m_k, m_w, m_n, m_c, hlen, hok, hg⟩ := id h
  refine C.intro (pl := [some (.ref mo), some (vI (i : Int))]) pn_X4 rfl (fun h => absurd h (by decide)) rfl (Nat.le_of_ble_eq_true rfl) rfl ?_
  refine g_iload_n dX4_has_0 rfl ?_
  refine z_if_lt (tgt := 23) dX4_has_1 (by decide) (by omega) (fun c1 => absurd c1 (by omega)) (fun c1 => ?_)
  refine g_iload_n dX4_has_4 rfl ?_
  refine g_aload_n dX4_has_5 rfl ?_
  refine z_getf fl_X4_24 dX4_has_6 m_o rfl ?_
  refine z_icmp_ge (tgt := 23) dX4_has_9 (by decide) (by omega) (by omega) (fun c9 => absurd c9 (by omega)) (fun c9 => ?_)
  refine g_iload_n dX4_has_12 rfl ?_
  refine z_sipush dX4_has_13 (by decide +kernel) ?_
  refine z_icmp_ge (tgt := 23) dX4_has_16 (by decide) (by omega) (by omega) (fun c16 => absurd c16 (by omega)) (fun c16 => ?_)
  refine z_iconst dX4_has_19 ?_
  refine g_goto (tgt := 24) dX4_has_20 (by decide) ?_
  exact g_zreturn dX4_has_24 rfl (by first | rfl | decide) (Nat.le_of_ble_eq_true rfl) (Nat.le_of_ble_eq_true rfl) ⟨rfl, rfl, rfl⟩
set_option maxHeartbeats 1000000 in
theorem Md_countIn {M : pM} {z mo i s : Nat} {t : tbl} (h : Md M mo t) (hi : i < t.length) (hs : s < 96) : CR I_X4_countIn yX4_countIn [.ref mo, vI (i : Int), vI (s : Int)] M z (some (vI (t[i].2 s))) := by
  obtain ⟨gk, gw, gn, gc, m_o, m_k, m_w, m_n, m_c, hlen, hok, hg⟩ := id h
  refine C.intro (pl := [some (.ref mo), some (vI (i : Int)), some (vI (s : Int)), none]) pn_X4 rfl (fun h => absurd h (by decide)) rfl (Nat.le_of_ble_eq_true rfl) rfl ?_
  refine g_iload_n dX4_countIn_0 rfl ?_
  refine z_if_lt (tgt := 33) dX4_countIn_1 (by decide) (by omega) (fun c1 => absurd c1 (by omega)) (fun c1 => ?_)
  refine g_iload_n dX4_countIn_4 rfl ?_
  refine g_aload_n dX4_countIn_5 rfl ?_
  refine z_getf fl_X4_24 dX4_countIn_6 m_o rfl ?_
  refine z_icmp_ge (tgt := 33) dX4_countIn_9 (by decide) (by omega) (by omega) (fun c9 => absurd c9 (by omega)) (fun c9 => ?_)
  refine g_iload_n dX4_countIn_12 rfl ?_
  refine z_sipush dX4_countIn_13 (by decide +kernel) ?_
  refine z_icmp_ge (tgt := 33) dX4_countIn_16 (by decide) (by omega) (by omega) (fun c16 => absurd c16 (by omega)) (fun c16 => ?_)
  refine g_iload_n dX4_countIn_19 rfl ?_
  refine z_if_lt (tgt := 33) dX4_countIn_20 (by decide) (by omega) (fun c20 => absurd c20 (by omega)) (fun c20 => ?_)
  refine g_iload_n dX4_countIn_23 rfl ?_
  refine z_bipush dX4_countIn_24 (by decide +kernel) ?_
  refine z_icmp_ge (tgt := 33) dX4_countIn_26 (by decide) (by omega) (by omega) (fun c26 => absurd c26 (by omega)) (fun c26 => ?_)
  refine z_iconst dX4_countIn_29 ?_
  refine g_goto (tgt := 34) dX4_countIn_30 (by decide) ?_
  refine g_istore_n dX4_countIn_34 rfl (Nat.le_of_ble_eq_true rfl) ?_
  refine g_iload_n dX4_countIn_35 rfl ?_
  refine z_if_eq (tgt := 53) dX4_countIn_36 (by decide) (by omega) (fun c36 => absurd c36 (by omega)) (fun c36 => ?_)
  refine g_aload_n dX4_countIn_39 rfl ?_
  refine z_getf fl_X4_21 dX4_countIn_40 m_o rfl ?_
  refine g_iload_n dX4_countIn_43 rfl ?_
  refine z_bipush dX4_countIn_44 (by decide +kernel) ?_
  refine z_imul dX4_countIn_46 ?_
  refine g_iload_n dX4_countIn_47 rfl ?_
  refine z_iadd dX4_countIn_48 ?_
  refine z_iaload (j := i * 96 + s) dX4_countIn_49 m_c (by omega) (by omega) (by omega) ?_
  refine g_goto (tgt := 54) dX4_countIn_50 (by decide) ?_
  exact g_ireturn dX4_countIn_54 rfl (Nat.le_of_ble_eq_true rfl) (Nat.le_of_ble_eq_true rfl) ⟨rfl, rfl, by rw [(hg i hi).2.2.2 s hs]⟩
set_option maxHeartbeats 1000000 in
theorem Md_weightOf {M : pM} {z mo i : Nat} {t : tbl} (h : Md M mo t) (hi : i < t.length) : CR I_X4_weightOf yX4_weightOf [.ref mo, vI (i : Int)] M z (some (vI (wt t[i].2))) := by
  obtain ⟨gk, gw, gn, gc, m_o, m_k, m_w, m_n, m_c, hlen, hok, hg⟩ := id h
  refine C.intro (pl := [some (.ref mo), some (vI (i : Int))]) pn_X4 rfl (fun h => absurd h (by decide)) rfl (Nat.le_of_ble_eq_true rfl) rfl ?_
  refine g_aload_n dX4_weightOf_0 rfl ?_
  refine g_iload_n dX4_weightOf_1 rfl ?_
  refine z_callVR dX4_weightOf_2 lm_X4_47 lk_X4_has (Md_has h hi) rfl rfl m_o rfl (mkRoom rfl rfl) (Nat.le_of_ble_eq_true rfl) (Nat.le_of_ble_eq_true rfl) (Nat.le_of_ble_eq_true rfl) ?_
  refine z_if_eq (tgt := 17) dX4_weightOf_5 (by decide) (by omega) (fun c5 => absurd c5 (by omega)) (fun c5 => ?_)
  refine g_aload_n dX4_weightOf_8 rfl ?_
  refine z_getf fl_X4_15 dX4_weightOf_9 m_o rfl ?_
  refine g_iload_n dX4_weightOf_12 rfl ?_
  refine z_iaload (j := i) dX4_weightOf_13 m_w (by omega) (by omega) (by omega) ?_
  refine g_goto (tgt := 18) dX4_weightOf_14 (by decide) ?_
  exact g_ireturn dX4_weightOf_18 rfl (Nat.le_of_ble_eq_true rfl) (Nat.le_of_ble_eq_true rfl) ⟨rfl, rfl, by rw [(hg i hi).2.1]⟩
set_option maxHeartbeats 1000000 in
theorem Md_knownIn {M : pM} {z mo i : Nat} {t : tbl} (h : Md M mo t) (hi : i < t.length) : CR I_X4_knownIn yX4_knownIn [.ref mo, vI (i : Int)] M z (some (vI (kn t[i].2))) := by
  obtain ⟨gk, gw, gn, gc, m_o, m_k, m_w, m_n, m_c, hlen, hok, hg⟩ := id h
  refine C.intro (pl := [some (.ref mo), some (vI (i : Int))]) pn_X4 rfl (fun h => absurd h (by decide)) rfl (Nat.le_of_ble_eq_true rfl) rfl ?_
  refine g_aload_n dX4_knownIn_0 rfl ?_
  refine g_iload_n dX4_knownIn_1 rfl ?_
  refine z_callVR dX4_knownIn_2 lm_X4_47 lk_X4_has (Md_has h hi) rfl rfl m_o rfl (mkRoom rfl rfl) (Nat.le_of_ble_eq_true rfl) (Nat.le_of_ble_eq_true rfl) (Nat.le_of_ble_eq_true rfl) ?_
  refine z_if_eq (tgt := 17) dX4_knownIn_5 (by decide) (by omega) (fun c5 => absurd c5 (by omega)) (fun c5 => ?_)
  refine g_aload_n dX4_knownIn_8 rfl ?_
  refine z_getf fl_X4_18 dX4_knownIn_9 m_o rfl ?_
  refine g_iload_n dX4_knownIn_12 rfl ?_
  refine z_iaload (j := i) dX4_knownIn_13 m_n (by omega) (by omega) (by omega) ?_
  refine g_goto (tgt := 18) dX4_knownIn_14 (by decide) ?_
  exact g_ireturn dX4_knownIn_18 rfl (Nat.le_of_ble_eq_true rfl) (Nat.le_of_ble_eq_true rfl) ⟨rfl, rfl, by rw [(hg i hi).2.2.1]⟩
set_option maxHeartbeats 1000000 in
theorem Md_halve {M : pM} {z mo i : Nat} {t : tbl} (h : Md M mo t) (hi : i < t.length) : CW I_X4_halve yX4_halve [.ref mo, vI (i : Int)] M z (fun M' r => r = none ∧ Md M' mo (t.set i (t[i].1, fun x => (t[i].2 x + 1) / 2)) ∧ Off M M' mo (mo + 5)) := by
  obtain ⟨gk, gw, gn, gc, m_o, m_k, m_w, m_n, m_c, hlen, hok, hg⟩ := id h
  refine C.intro (pl := [some (.ref mo), some (vI (i : Int)), none, none]) pn_X4 rfl (fun h => absurd h (by decide)) rfl (Nat.le_of_ble_eq_true rfl) rfl ?_
  have hoki := hok _ (List.getElem_mem hi)
  have loop : ∀ (n s : Nat) (M1 : pM) (g : Nat → Int), s ≤ 96 → 96 - s = n → Off M M1 mo (mo + 5) → M1 mo = some (ob 4 [vI t.length, .ref (mo + 1), .ref (mo + 2), .ref (mo + 3), .ref (mo + 4)]) → M1 (mo + 1) = some (arI 250 gk) → M1 (mo + 2) = some (arI 250 gw) → M1 (mo + 3) = some (arI 250 gn) → M1 (mo + 4) = some (arI 24000 g) → (∀ x, g x = if i * 96 ≤ x ∧ x < i * 96 + s then (gc x + 1) / 2 else gc x) → G I_X4_halve 0 0 (fun M' z' r' => z' = z ∧ r' = none ∧ Md M' mo (t.set i (t[i].1, fun x => (t[i].2 x + 1) / 2)) ∧ Off M M' mo (mo + 5)) 0 0 7 [some (.ref mo), some (vI (i : Int)), some (vI (sm (fun x => (t[i].2 x + 1) / 2) s)), some (vI ((i * 96 + s : Nat) : Int))] [] M1 z := by
    intro n
    induction n with
    | zero =>
      intro s M g hs hn fr m_o m_k m_w m_n m_c hgx
      have hs2 : s = 96 := by omega
      subst hs2
      refine g_iload_n dX4_halve_7 rfl ?_
      refine g_iload_n dX4_halve_8 rfl ?_
      refine z_iconst dX4_halve_9 ?_
      refine z_iadd dX4_halve_10 ?_
      refine z_bipush dX4_halve_11 (by decide +kernel) ?_
      refine z_imul dX4_halve_13 ?_
      refine z_icmp_ge (tgt := 48) dX4_halve_14 (by decide) (by omega) (by omega) (fun c14 => ?_) (fun c14 => absurd c14 (by omega))
      refine g_aload_n dX4_halve_48 rfl ?_
      refine z_getf fl_X4_15 dX4_halve_49 m_o rfl ?_
      refine g_iload_n dX4_halve_52 rfl ?_
      refine g_iload_n dX4_halve_53 rfl ?_
      refine z_iastore (j := i) dX4_halve_54 m_w (by omega) (by omega) (by omega) (fun M m_w o => ?_)
      have m_o := (o _ (by omega)).trans m_o
      have m_k := (o _ (by omega)).trans m_k
      have m_n := (o _ (by omega)).trans m_n
      have m_c := (o _ (by omega)).trans m_c
      have fr := fr.one o (by omega)
      refine g_return dX4_halve_55 rfl (Nat.le_of_ble_eq_true rfl) (Nat.le_of_ble_eq_true rfl) ⟨rfl, rfl, ⟨gk, upZ gw i (sm (fun x => (t[i].2 x + 1) / 2) 96), gn, g, by rw [List.length_set]; exact m_o, m_k, m_w, m_n, m_c, by rw [List.length_set]; exact hlen, fun e he => ?_, fun j hj => ?_⟩, fr⟩
      · rcases List.mem_or_eq_of_mem_set he with he | rfl
        · exact hok e he
        · refine ⟨hoki.1, fun x hx => ?_, ?_⟩
          · have := hoki.2.1 x hx
            show 0 ≤ (t[i].2 x + 1) / 2
            omega
          · have h1 := sm_half (c := t[i].2) (n := 96)
            have h2 := hoki.2.2
            unfold wt at h2 ⊢
            show sm (fun x => (t[i].2 x + 1) / 2) 96 ≤ 1010
            omega
      · rw [List.length_set] at hj
        rw [List.getElem_set]
        by_cases e : i = j
        · subst e
          rw [if_pos rfl]
          refine ⟨(hg i hi).1, by rw [upZ_s]; rfl, ?_, fun x hx => ?_⟩
          · rw [(hg i hi).2.2.1]
            unfold kn
            refine sm_cong (fun x hx => ?_)
            have := hoki.2.1 x hx
            show (if 0 < t[i].2 x then (1 : Int) else 0) = if 0 < (t[i].2 x + 1) / 2 then 1 else 0
            by_cases hz : 0 < t[i].2 x
            · rw [if_pos hz, if_pos (by omega)]
            · rw [if_neg hz, if_neg (by omega)]
          · rw [hgx, if_pos (by omega), (hg i hi).2.2.2 x hx]
        · rw [if_neg e]
          refine ⟨(hg j hj).1, by rw [upZ_n (Ne.symm e)]; exact (hg j hj).2.1, (hg j hj).2.2.1, fun x hx => ?_⟩
          rw [hgx, if_neg (by omega)]; exact (hg j hj).2.2.2 x hx
    | succ n ih =>
      intro s M g hs hn fr m_o m_k m_w m_n m_c hgx
      have hs2 : s < 96 := by omega
      have hc1 := hoki.cnt hs2
      have hc2 := (hg i hi).2.2.2 s hs2
      have hgs : g (i * 96 + s) = t[i].2 s := by rw [hgx, if_neg (by omega)]; exact hc2
      have hsum := sm_half (c := t[i].2) (n := s)
      refine g_iload_n dX4_halve_7 rfl ?_
      refine g_iload_n dX4_halve_8 rfl ?_
      refine z_iconst dX4_halve_9 ?_
      refine z_iadd dX4_halve_10 ?_
      refine z_bipush dX4_halve_11 (by decide +kernel) ?_
      refine z_imul dX4_halve_13 ?_
      refine z_icmp_ge (tgt := 48) dX4_halve_14 (by decide) (by omega) (by omega) (fun c14 => absurd c14 (by omega)) (fun c14 => ?_)
      refine g_aload_n dX4_halve_17 rfl ?_
      refine z_getf fl_X4_21 dX4_halve_18 m_o rfl ?_
      refine g_iload_n dX4_halve_21 rfl ?_
      refine g_aload_n dX4_halve_22 rfl ?_
      refine z_getf fl_X4_21 dX4_halve_23 m_o rfl ?_
      refine g_iload_n dX4_halve_26 rfl ?_
      refine z_iaload (j := i * 96 + s) dX4_halve_27 m_c (by omega) (by omega) (by omega) ?_
      refine z_iconst dX4_halve_28 ?_
      refine z_iadd dX4_halve_29 ?_
      refine z_iconst dX4_halve_30 ?_
      refine z_idiv dX4_halve_31 (by rw [hgs]; omega) (by omega) ?_
      refine z_iastore (j := i * 96 + s) dX4_halve_32 m_c (by omega) (by omega) (by omega) (fun M m_c o => ?_)
      have m_o := (o _ (by omega)).trans m_o
      have m_k := (o _ (by omega)).trans m_k
      have m_w := (o _ (by omega)).trans m_w
      have m_n := (o _ (by omega)).trans m_n
      have fr := fr.one o (by omega)
      refine g_iload_n dX4_halve_33 rfl ?_
      refine g_aload_n dX4_halve_34 rfl ?_
      refine z_getf fl_X4_21 dX4_halve_35 m_o rfl ?_
      refine g_iload_n dX4_halve_38 rfl ?_
      refine z_iaload (j := i * 96 + s) dX4_halve_39 m_c (by omega) (by omega) (by omega) ?_
      refine z_iadd dX4_halve_40 ?_
      refine g_istore_n dX4_halve_41 rfl (Nat.le_of_ble_eq_true rfl) ?_
      refine z_iinc dX4_halve_42 rfl (Nat.le_of_ble_eq_true rfl) ?_
      refine g_goto (tgt := 7) dX4_halve_45 (by decide) ?_
      have e1 : sm (fun x => (t[i].2 x + 1) / 2) s + upZ g (i * 96 + s) ((g (i * 96 + s) + 1) / 2) (i * 96 + s) = sm (fun x => (t[i].2 x + 1) / 2) (s + 1) := by rw [upZ_s, hgs]; rfl
      rw [e1]
      refine ih (s + 1) M _ (by omega) (by omega) fr m_o m_k m_w m_n m_c (fun x => ?_)
      by_cases hx : x = i * 96 + s
      · subst hx; rw [upZ_s, if_pos (by omega), hgs, hc2]
      · rw [upZ_n hx, hgx]
        by_cases hy : i * 96 ≤ x ∧ x < i * 96 + s
        · rw [if_pos hy, if_pos (by omega)]
        · rw [if_neg hy, if_neg (by omega)]
  refine z_iconst dX4_halve_0 ?_
  refine g_istore_n dX4_halve_1 rfl (Nat.le_of_ble_eq_true rfl) ?_
  refine g_iload_n dX4_halve_2 rfl ?_
  refine z_bipush dX4_halve_3 (by decide +kernel) ?_
  refine z_imul dX4_halve_5 ?_
  refine g_istore_n dX4_halve_6 rfl (Nat.le_of_ble_eq_true rfl) ?_
  exact loop 96 0 M gc (Nat.zero_le _) rfl Off.rf m_o m_k m_w m_n m_c (fun x => by rw [if_neg (by omega)])
end
section
theorem wt_0 : wt (fun _ => 0) = 0 := by decide +kernel
theorem kn_0 : kn (fun _ => 0) = 0 := by decide +kernel
set_option maxHeartbeats 1000000 in
theorem Md_meet {M : pM} {z mo : Nat} {t : tbl} {k : Int} (h : Md M mo t) (hk : 0 ≤ k ∧ k < 2147483648) : CW I_X4_meet yX4_meet [.ref mo, vI k] M z (fun M' r => r = some (vI (met t k).2) ∧ Md M' mo (met t k).1 ∧ Off M M' mo (mo + 5)) := by
  obtain ⟨gk, gw, gn, gc, m_o, m_k, m_w, m_n, m_c, hlen, hok, hg⟩ := id h
  have fr : Off M M mo (mo + 5) := Off.rf
  refine C.intro (pl := [some (.ref mo), some (vI k), none, none]) pn_X4 rfl (fun h => absurd h (by decide)) rfl (Nat.le_of_ble_eq_true rfl) rfl ?_
  have hf := fnd_cases t k
  have hfr : -1 ≤ fnd t k ∧ fnd t k ≤ 250 := by rcases hf with ⟨h1, -⟩ | ⟨i, h1, h2, -⟩ <;> omega
  by_cases hm : 0 ≤ fnd t k ∨ 250 ≤ t.length
  · have e : met t k = (t, fnd t k) := by unfold met; rw [if_pos hm]
    rw [e]
    refine g_aload_n dX4_meet_0 rfl ?_
    refine g_iload_n dX4_meet_1 rfl ?_
    refine z_callVR dX4_meet_2 lm_X4_43 lk_X4_find (Md_find h (by omega)) rfl rfl m_o rfl (mkRoom rfl rfl) (Nat.le_of_ble_eq_true rfl) (Nat.le_of_ble_eq_true rfl) (Nat.le_of_ble_eq_true rfl) ?_
    refine g_istore_n dX4_meet_5 rfl (Nat.le_of_ble_eq_true rfl) ?_
    refine g_iload_n dX4_meet_6 rfl ?_
    refine z_if_ge (tgt := 27) dX4_meet_7 (by decide) (by omega) (fun c7 => ?_) (fun c7 => ?_)
    · refine g_iload_n dX4_meet_27 rfl ?_
      exact g_ireturn dX4_meet_28 rfl (Nat.le_of_ble_eq_true rfl) (Nat.le_of_ble_eq_true rfl) ⟨rfl, rfl, h, fr⟩
    · refine g_aload_n dX4_meet_10 rfl ?_
      refine z_getf fl_X4_24 dX4_meet_11 m_o rfl ?_
      refine z_if_lt (tgt := 27) dX4_meet_14 (by decide) (by omega) (fun c14 => ?_) (fun c14 => ?_)
      · refine g_iload_n dX4_meet_27 rfl ?_
        exact g_ireturn dX4_meet_28 rfl (Nat.le_of_ble_eq_true rfl) (Nat.le_of_ble_eq_true rfl) ⟨rfl, rfl, h, fr⟩
      · refine g_aload_n dX4_meet_17 rfl ?_
        refine z_getf fl_X4_24 dX4_meet_18 m_o rfl ?_
        refine z_sipush dX4_meet_21 (by decide +kernel) ?_
        refine z_icmp_lt (tgt := 29) dX4_meet_24 (by decide) (by omega) (by omega) (fun c24 => ?_) (fun c24 => ?_)
        · exfalso; omega
        · refine g_iload_n dX4_meet_27 rfl ?_
          exact g_ireturn dX4_meet_28 rfl (Nat.le_of_ble_eq_true rfl) (Nat.le_of_ble_eq_true rfl) ⟨rfl, rfl, h, fr⟩
  · have e : met t k = (t ++ [(k, fun _ => 0)], (t.length : Int)) := by unfold met; rw [if_neg hm]
    rw [e]
    have hl : t.length < 250 := by omega
    have loop : ∀ (n s : Nat) (M1 : pM) (g : Nat → Int), s ≤ 96 → 96 - s = n → Off M M1 mo (mo + 5) → M1 mo = some (ob 4 [vI ((t.length : Int) + 1), .ref (mo + 1), .ref (mo + 2), .ref (mo + 3), .ref (mo + 4)]) → M1 (mo + 1) = some (arI 250 (upZ gk t.length k)) → M1 (mo + 2) = some (arI 250 (upZ gw t.length 0)) → M1 (mo + 3) = some (arI 250 (upZ gn t.length 0)) → M1 (mo + 4) = some (arI 24000 g) → (∀ x, g x = if t.length * 96 ≤ x ∧ x < t.length * 96 + s then 0 else gc x) → G I_X4_meet 0 0 (fun M' z' r' => z' = z ∧ r' = some (vI (t.length : Int)) ∧ Md M' mo (t ++ [(k, fun _ => 0)]) ∧ Off M M' mo (mo + 5)) 0 0 67 [some (.ref mo), some (vI k), some (vI (t.length : Int)), some (vI (s : Int))] [] M1 z := by
      intro n
      induction n with
      | zero =>
        intro s M g hs hn fr m_o m_k m_w m_n m_c hgx
        have hs2 : s = 96 := by omega
        subst hs2
        refine g_iload_n dX4_meet_67 rfl ?_
        refine z_bipush dX4_meet_68 (by decide +kernel) ?_
        refine z_icmp_ge (tgt := 91) dX4_meet_70 (by decide) (by omega) (by omega) (fun c70 => ?_) (fun c70 => absurd c70 (by omega))
        refine g_iload_n dX4_meet_91 rfl ?_
        refine g_ireturn dX4_meet_92 rfl (Nat.le_of_ble_eq_true rfl) (Nat.le_of_ble_eq_true rfl) ⟨rfl, rfl, ⟨upZ gk t.length k, upZ gw t.length 0, upZ gn t.length 0, g, by rw [List.length_append]; exact m_o, m_k, m_w, m_n, m_c, by rw [List.length_append]; simp; omega, fun e he => ?_, fun j hj => ?_⟩, fr⟩
        · rcases List.mem_append.mp he with he | he
          · exact hok e he
          · rw [List.mem_singleton] at he
            subst he
            exact ⟨hk, fun _ _ => Int.le_refl _, by show wt (fun _ => 0) ≤ 1010; rw [wt_0]; decide⟩
        · rw [List.length_append] at hj
          simp only [List.length_cons, List.length_nil] at hj
          by_cases e : j = t.length
          · subst e
            rw [upZ_s, upZ_s, upZ_s]
            rw [List.getElem_append_right (Nat.le_refl _)]
            simp only [Nat.sub_self, List.getElem_cons_zero]
            exact ⟨trivial, wt_0.symm, kn_0.symm, fun x hx => by rw [hgx, if_pos (by omega)]⟩
          · have hj2 : j < t.length := by omega
            rw [upZ_n e, upZ_n e, upZ_n e, List.getElem_append_left hj2]
            obtain ⟨u1, u2, u3, u4⟩ := hg j hj2
            exact ⟨u1, u2, u3, fun x hx => by rw [hgx, if_neg (by omega)]; exact u4 x hx⟩
      | succ n ih =>
        intro s M g hs hn fr m_o m_k m_w m_n m_c hgx
        have hs2 : s < 96 := by omega
        refine g_iload_n dX4_meet_67 rfl ?_
        refine z_bipush dX4_meet_68 (by decide +kernel) ?_
        refine z_icmp_ge (tgt := 91) dX4_meet_70 (by decide) (by omega) (by omega) (fun c70 => absurd c70 (by omega)) (fun c70 => ?_)
        refine g_aload_n dX4_meet_73 rfl ?_
        refine z_getf fl_X4_21 dX4_meet_74 m_o rfl ?_
        refine g_iload_n dX4_meet_77 rfl ?_
        refine z_bipush dX4_meet_78 (by decide +kernel) ?_
        refine z_imul dX4_meet_80 ?_
        refine g_iload_n dX4_meet_81 rfl ?_
        refine z_iadd dX4_meet_82 ?_
        refine z_iconst dX4_meet_83 ?_
        refine z_iastore (j := t.length * 96 + s) dX4_meet_84 m_c (by omega) (by omega) (by omega) (fun M m_c o => ?_)
        have m_o := (o _ (by omega)).trans m_o
        have m_k := (o _ (by omega)).trans m_k
        have m_w := (o _ (by omega)).trans m_w
        have m_n := (o _ (by omega)).trans m_n
        have fr := fr.one o (by omega)
        refine z_iinc dX4_meet_85 rfl (Nat.le_of_ble_eq_true rfl) ?_
        refine g_goto (tgt := 67) dX4_meet_88 (by decide) ?_
        refine ih (s + 1) M _ (by omega) (by omega) fr m_o m_k m_w m_n m_c (fun x => ?_)
        by_cases hx : x = t.length * 96 + s
        · subst hx; rw [upZ_s, if_pos (by omega)]
        · rw [upZ_n hx, hgx]
          by_cases hy : t.length * 96 ≤ x ∧ x < t.length * 96 + s
          · rw [if_pos hy, if_pos (by omega)]
          · rw [if_neg hy, if_neg (by omega)]
    refine g_aload_n dX4_meet_0 rfl ?_
    refine g_iload_n dX4_meet_1 rfl ?_
    refine z_callVR dX4_meet_2 lm_X4_43 lk_X4_find (Md_find h (by omega)) rfl rfl m_o rfl (mkRoom rfl rfl) (Nat.le_of_ble_eq_true rfl) (Nat.le_of_ble_eq_true rfl) (Nat.le_of_ble_eq_true rfl) ?_
    refine g_istore_n dX4_meet_5 rfl (Nat.le_of_ble_eq_true rfl) ?_
    refine g_iload_n dX4_meet_6 rfl ?_
    refine z_if_ge (tgt := 27) dX4_meet_7 (by decide) (by omega) (fun c7 => ?_) (fun c7 => ?_)
    · refine g_iload_n dX4_meet_27 rfl ?_
      exact g_ireturn dX4_meet_28 rfl (Nat.le_of_ble_eq_true rfl) (Nat.le_of_ble_eq_true rfl) ⟨rfl, by exfalso; omega⟩
    · refine g_aload_n dX4_meet_10 rfl ?_
      refine z_getf fl_X4_24 dX4_meet_11 m_o rfl ?_
      refine z_if_lt (tgt := 27) dX4_meet_14 (by decide) (by omega) (fun c14 => ?_) (fun c14 => ?_)
      · refine g_iload_n dX4_meet_27 rfl ?_
        exact g_ireturn dX4_meet_28 rfl (Nat.le_of_ble_eq_true rfl) (Nat.le_of_ble_eq_true rfl) ⟨rfl, by exfalso; omega⟩
      · refine g_aload_n dX4_meet_17 rfl ?_
        refine z_getf fl_X4_24 dX4_meet_18 m_o rfl ?_
        refine z_sipush dX4_meet_21 (by decide +kernel) ?_
        refine z_icmp_lt (tgt := 29) dX4_meet_24 (by decide) (by omega) (by omega) (fun c24 => ?_) (fun c24 => ?_)
        · refine g_aload_n dX4_meet_29 rfl ?_
          refine z_getf fl_X4_24 dX4_meet_30 m_o rfl ?_
          refine g_istore_n dX4_meet_33 rfl (Nat.le_of_ble_eq_true rfl) ?_
          refine g_aload_n dX4_meet_34 rfl ?_
          refine g_dup dX4_meet_35 rfl ?_
          refine z_getf fl_X4_24 dX4_meet_36 m_o rfl ?_
          refine z_iconst dX4_meet_39 ?_
          refine z_iadd dX4_meet_40 ?_
          refine z_putf fl_X4_24 dX4_meet_41 m_o rfl (Nat.le_of_ble_eq_true rfl) rfl rfl (fun M m_o o => ?_)
          have m_k := (o _ (by omega)).trans m_k
          have m_w := (o _ (by omega)).trans m_w
          have m_n := (o _ (by omega)).trans m_n
          have m_c := (o _ (by omega)).trans m_c
          have fr := fr.one o (by omega)
          refine g_aload_n dX4_meet_44 rfl ?_
          refine z_getf fl_X4_9 dX4_meet_45 m_o rfl ?_
          refine g_iload_n dX4_meet_48 rfl ?_
          refine g_iload_n dX4_meet_49 rfl ?_
          refine z_iastore (j := t.length) dX4_meet_50 m_k (by omega) (by omega) (by omega) (fun M m_k o => ?_)
          have m_o := (o _ (by omega)).trans m_o
          have m_w := (o _ (by omega)).trans m_w
          have m_n := (o _ (by omega)).trans m_n
          have m_c := (o _ (by omega)).trans m_c
          have fr := fr.one o (by omega)
          refine g_aload_n dX4_meet_51 rfl ?_
          refine z_getf fl_X4_15 dX4_meet_52 m_o rfl ?_
          refine g_iload_n dX4_meet_55 rfl ?_
          refine z_iconst dX4_meet_56 ?_
          refine z_iastore (j := t.length) dX4_meet_57 m_w (by omega) (by omega) (by omega) (fun M m_w o => ?_)
          have m_o := (o _ (by omega)).trans m_o
          have m_k := (o _ (by omega)).trans m_k
          have m_n := (o _ (by omega)).trans m_n
          have m_c := (o _ (by omega)).trans m_c
          have fr := fr.one o (by omega)
          refine g_aload_n dX4_meet_58 rfl ?_
          refine z_getf fl_X4_18 dX4_meet_59 m_o rfl ?_
          refine g_iload_n dX4_meet_62 rfl ?_
          refine z_iconst dX4_meet_63 ?_
          refine z_iastore (j := t.length) dX4_meet_64 m_n (by omega) (by omega) (by omega) (fun M m_n o => ?_)
          have m_o := (o _ (by omega)).trans m_o
          have m_k := (o _ (by omega)).trans m_k
          have m_w := (o _ (by omega)).trans m_w
          have m_c := (o _ (by omega)).trans m_c
          have fr := fr.one o (by omega)
          refine z_iconst dX4_meet_65 ?_
          refine g_istore_n dX4_meet_66 rfl (Nat.le_of_ble_eq_true rfl) ?_
          exact loop 96 0 M gc (Nat.zero_le _) rfl fr m_o m_k m_w m_n m_c (fun x => by rw [if_neg (by omega)])
        · refine g_iload_n dX4_meet_27 rfl ?_
          exact g_ireturn dX4_meet_28 rfl (Nat.le_of_ble_eq_true rfl) (Nat.le_of_ble_eq_true rfl) ⟨rfl, by exfalso; omega⟩
theorem kn_up {c : Nat → Int} {s : Nat} {v : Int} (hs : s < 96) : kn (upZ c s v) = kn c - (if 0 < c s then 1 else 0) + (if 0 < v then 1 else 0) := by
  unfold kn
  rw [← sm_up (c := fun s => if 0 < c s then (1 : Int) else 0) hs]
  refine sm_cong (fun x _ => ?_)
  by_cases e : x = s
  · subst e; simp [upZ]
  · simp [upZ, e]
set_option maxHeartbeats 1000000 in
theorem Md_raise {M : pM} {z mo i s : Nat} {t : tbl} {step limit : Int} (h : Md M mo t) (hi : i < t.length) (hs : s < 96) (hw : wt t[i].2 ≤ 1000) (hst : 1 ≤ step ∧ step ≤ 10) (hli : 20 ≤ limit ∧ limit ≤ 1000) : CW I_X4_raise yX4_raise [.ref mo, vI (i : Int), vI (s : Int), vI step, vI limit] M z (fun M' r => r = none ∧ Md M' mo (rse t i s step limit) ∧ Off M M' mo (mo + 5)) := by
  obtain ⟨gk, gw, gn, gc, m_o, m_k, m_w, m_n, m_c, hlen, hok, hg⟩ := id h
  have fr : Off M M mo (mo + 5) := Off.rf
  refine C.intro (pl := [some (.ref mo), some (vI (i : Int)), some (vI (s : Int)), some (vI step), some (vI limit), none]) pn_X4 rfl (fun h => absurd h (by decide)) rfl (Nat.le_of_ble_eq_true rfl) rfl ?_
  have hoki := hok _ (List.getElem_mem hi)
  have hci := hoki.cnt hs
  have hgc := (hg i hi).2.2.2 s hs
  have hgw := (hg i hi).2.1
  have hgn := (hg i hi).2.2.1
  have hkr := kn_rng t[i].2
  have hwn : 0 ≤ wt t[i].2 := sm_nn hoki.2.1
  have hwu : wt (upZ t[i].2 s (t[i].2 s + step)) = wt t[i].2 + step := by unfold wt; rw [sm_up hs]; omega
  have hku := kn_up (c := t[i].2) (s := s) (v := t[i].2 s + step) hs
  rw [if_pos (show 0 < t[i].2 s + step by omega)] at hku
  have er : rse t i s step limit = t.set i (t[i].1, grw t[i].2 s step limit) := by unfold rse; rw [List.getElem?_eq_getElem hi]
  rw [er]
  have cont : ∀ (M1 : pM) (g2 : Nat → Int), Off M M1 mo (mo + 5) → M1 mo = some (ob 4 [vI t.length, .ref (mo + 1), .ref (mo + 2), .ref (mo + 3), .ref (mo + 4)]) → M1 (mo + 1) = some (arI 250 gk) → M1 (mo + 2) = some (arI 250 gw) → M1 (mo + 3) = some (arI 250 g2) → M1 (mo + 4) = some (arI 24000 gc) → g2 i = kn (upZ t[i].2 s (t[i].2 s + step)) → (∀ j, j ≠ i → g2 j = gn j) → G I_X4_raise 0 0 (fun M' z' r' => z' = z ∧ r' = none ∧ Md M' mo (t.set i (t[i].1, grw t[i].2 s step limit)) ∧ Off M M' mo (mo + 5)) 0 0 47 [some (.ref mo), some (vI (i : Int)), some (vI (s : Int)), some (vI step), some (vI limit), some (vI ((i * 96 + s : Nat) : Int))] [] M1 z := by
    intro M g2 fr m_o m_k m_w m_n m_c hg2 hg2n
    refine g_aload_n dX4_raise_47 rfl ?_
    refine z_getf fl_X4_21 dX4_raise_48 m_o rfl ?_
    refine g_iload dX4_raise_51 rfl ?_
    refine g_dup2 dX4_raise_53 rfl rfl ?_
    refine z_iaload (j := i * 96 + s) dX4_raise_54 m_c (by omega) (by omega) (by omega) ?_
    refine g_iload_n dX4_raise_55 rfl ?_
    refine z_iadd dX4_raise_56 ?_
    refine z_iastore (j := i * 96 + s) dX4_raise_57 m_c (by omega) (by omega) (by omega) (fun M m_c o => ?_)
    have m_o := (o _ (by omega)).trans m_o
    have m_k := (o _ (by omega)).trans m_k
    have m_w := (o _ (by omega)).trans m_w
    have m_n := (o _ (by omega)).trans m_n
    have fr := fr.one o (by omega)
    refine g_aload_n dX4_raise_58 rfl ?_
    refine z_getf fl_X4_15 dX4_raise_59 m_o rfl ?_
    refine g_iload_n dX4_raise_62 rfl ?_
    refine g_dup2 dX4_raise_63 rfl rfl ?_
    refine z_iaload (j := i) dX4_raise_64 m_w (by omega) (by omega) (by omega) ?_
    refine g_iload_n dX4_raise_65 rfl ?_
    refine z_iadd dX4_raise_66 ?_
    refine z_iastore (j := i) dX4_raise_67 m_w (by omega) (by omega) (by omega) (fun M m_w o => ?_)
    have m_o := (o _ (by omega)).trans m_o
    have m_k := (o _ (by omega)).trans m_k
    have m_n := (o _ (by omega)).trans m_n
    have m_c := (o _ (by omega)).trans m_c
    have fr := fr.one o (by omega)
    have hmd : Md M mo (t.set i (t[i].1, upZ t[i].2 s (t[i].2 s + step))) := by
      refine ⟨gk, upZ gw i (gw i + step), g2, upZ gc (i * 96 + s) (gc (i * 96 + s) + step), by rw [List.length_set]; exact m_o, m_k, m_w, m_n, m_c, by rw [List.length_set]; exact hlen, fun e he => ?_, fun j hj => ?_⟩
      · rcases List.mem_or_eq_of_mem_set he with he | rfl
        · exact hok e he
        · refine ⟨hoki.1, fun x hx => ?_, by rw [hwu]; omega⟩
          by_cases e : x = s
          · subst e; dsimp only; rw [upZ_s]; omega
          · dsimp only; rw [upZ_n e]; exact hoki.2.1 x hx
      · rw [List.length_set] at hj
        rw [List.getElem_set]
        by_cases e : i = j
        · subst e
          rw [if_pos rfl]
          refine ⟨(hg i hi).1, by rw [upZ_s, hgw]; exact hwu.symm, hg2, fun x hx => ?_⟩
          by_cases e : x = s
          · subst e; dsimp only; rw [upZ_s, upZ_s, hgc]
          · dsimp only; rw [upZ_n (by omega), upZ_n e]; exact (hg i hi).2.2.2 x hx
        · rw [if_neg e]
          refine ⟨(hg j hj).1, by rw [upZ_n (Ne.symm e)]; exact (hg j hj).2.1, by rw [hg2n j (Ne.symm e)]; exact (hg j hj).2.2.1, fun x hx => ?_⟩
          rw [upZ_n (by omega)]; exact (hg j hj).2.2.2 x hx
    have hcmp : upZ gw i (gw i + step) i = wt (upZ t[i].2 s (t[i].2 s + step)) := by rw [upZ_s, hgw, hwu]
    refine g_aload_n dX4_raise_68 rfl ?_
    refine z_getf fl_X4_15 dX4_raise_69 m_o rfl ?_
    refine g_iload_n dX4_raise_72 rfl ?_
    refine z_iaload (j := i) dX4_raise_73 m_w (by omega) (by omega) (by omega) ?_
    refine g_iload dX4_raise_74 rfl ?_
    refine z_icmp_le (tgt := 84) dX4_raise_76 (by decide) (by rw [upZ_s]; omega) (by omega) (fun c76 => ?_) (fun c76 => ?_)
    · exact g_return dX4_raise_84 rfl (Nat.le_of_ble_eq_true rfl) (Nat.le_of_ble_eq_true rfl) ⟨rfl, rfl, by unfold grw; rw [if_neg (by omega)]; exact hmd, fr⟩
    · refine g_aload_n dX4_raise_79 rfl ?_
      refine g_iload_n dX4_raise_80 rfl ?_
      refine z_callVV dX4_raise_81 lm_X4_51 lk_X4_halve (Md_halve (i := i) hmd (by rw [List.length_set]; exact hi)) rfl rfl m_o rfl (mkRoom rfl rfl) (Nat.le_of_ble_eq_true rfl) (Nat.le_of_ble_eq_true rfl) (Nat.le_of_ble_eq_true rfl) (fun M r hp => ?_)
      obtain ⟨rfl, hmd2, fr2⟩ := hp
      have fr := fr.tr fr2
      rw [List.getElem_set, if_pos rfl, List.set_set] at hmd2
      exact g_return dX4_raise_84 rfl (Nat.le_of_ble_eq_true rfl) (Nat.le_of_ble_eq_true rfl) ⟨rfl, rfl, by unfold grw; rw [if_pos (by omega)]; exact hmd2, fr⟩
  refine g_aload_n dX4_raise_0 rfl ?_
  refine g_iload_n dX4_raise_1 rfl ?_
  refine z_callVR dX4_raise_2 lm_X4_47 lk_X4_has (Md_has h hi) rfl rfl m_o rfl (mkRoom rfl rfl) (Nat.le_of_ble_eq_true rfl) (Nat.le_of_ble_eq_true rfl) (Nat.le_of_ble_eq_true rfl) ?_
  refine z_if_eq (tgt := 18) dX4_raise_5 (by decide) (by omega) (fun c5 => absurd c5 (by omega)) (fun c5 => ?_)
  refine g_iload_n dX4_raise_8 rfl ?_
  refine z_if_lt (tgt := 18) dX4_raise_9 (by decide) (by omega) (fun c9 => absurd c9 (by omega)) (fun c9 => ?_)
  refine g_iload_n dX4_raise_12 rfl ?_
  refine z_bipush dX4_raise_13 (by decide +kernel) ?_
  refine z_icmp_lt (tgt := 19) dX4_raise_15 (by decide) (by omega) (by omega) (fun c15 => ?_) (fun c15 => absurd c15 (by omega))
  refine g_iload_n dX4_raise_19 rfl ?_
  refine z_bipush dX4_raise_20 (by decide +kernel) ?_
  refine z_imul dX4_raise_22 ?_
  refine g_iload_n dX4_raise_23 rfl ?_
  refine z_iadd dX4_raise_24 ?_
  refine g_istore dX4_raise_25 (Nat.le_of_ble_eq_true rfl) ?_
  refine g_aload_n dX4_raise_27 rfl ?_
  refine z_getf fl_X4_21 dX4_raise_28 m_o rfl ?_
  refine g_iload dX4_raise_31 rfl ?_
  refine z_iaload (j := i * 96 + s) dX4_raise_33 m_c (by omega) (by omega) (by omega) ?_
  refine z_if_ne (tgt := 47) dX4_raise_34 (by decide) (by rw [hgc]; omega) (fun c34 => ?_) (fun c34 => ?_)
  · first
    | exact cont M gn fr m_o m_k m_w m_n m_c (by rw [hku, hgn, if_pos (by omega)]; omega) (fun j _ => rfl)
    | exact cont M _ fr m_o m_k m_w m_n m_c (by rw [upZ_s, hku, hgn, if_neg (by omega)]; omega) (fun j hj => upZ_n hj)
  · refine g_aload_n dX4_raise_37 rfl ?_
    refine z_getf fl_X4_18 dX4_raise_38 m_o rfl ?_
    refine g_iload_n dX4_raise_41 rfl ?_
    refine g_dup2 dX4_raise_42 rfl rfl ?_
    refine z_iaload (j := i) dX4_raise_43 m_n (by omega) (by omega) (by omega) ?_
    refine z_iconst dX4_raise_44 ?_
    refine z_iadd dX4_raise_45 ?_
    refine z_iastore (j := i) dX4_raise_46 m_n (by omega) (by omega) (by omega) (fun M m_n o => ?_)
    have m_o := (o _ (by omega)).trans m_o
    have m_k := (o _ (by omega)).trans m_k
    have m_w := (o _ (by omega)).trans m_w
    have m_c := (o _ (by omega)).trans m_c
    have fr := fr.one o (by omega)
    first
    | exact cont M gn fr m_o m_k m_w m_n m_c (by rw [hku, hgn, if_pos (by omega)]; omega) (fun j _ => rfl)
    | exact cont M _ fr m_o m_k m_w m_n m_c (by rw [upZ_s, hku, hgn, if_neg (by omega)]; omega) (fun j hj => upZ_n hj)
set_option maxHeartbeats 1000000 in
theorem Md_take {M : pM} {z mo m2 : Nat} {t t2 : tbl} (h : Md M mo t) (h2 : Md M m2 t2) (hd : mo + 5 ≤ m2 ∨ m2 + 5 ≤ mo) : CW I_X4_take yX4_take [.ref mo, .ref m2] M z (fun M' r => r = none ∧ Md M' mo t2 ∧ Off M M' mo (mo + 5)) := by
  obtain ⟨gk, gw, gn, gc, m_o, m_k, m_w, m_n, m_c, hlen, hok, hg⟩ := id h
  have fr : Off M M mo (mo + 5) := Off.rf
  obtain ⟨hk, hw, hn, hc, m_p, m_x1, m_x2, m_x3, m_x4, hlen2, hok2, hg2⟩ := id h2
  refine C.intro (pl := [some (.ref mo), some (.ref m2)]) pn_X4 rfl (fun h => absurd h (by decide)) rfl (Nat.le_of_ble_eq_true rfl) rfl ?_
  refine g_aload_n dX4_take_0 rfl ?_
  refine z_iconst dX4_take_1 ?_
  refine g_aload_n dX4_take_2 rfl ?_
  refine z_getf fl_X4_24 dX4_take_3 m_p rfl ?_
  refine z_sipush dX4_take_6 (by decide +kernel) ?_
  refine z_min lj_X4_28 dX4_take_9 ⟨(Nat.le_of_ble_eq_true rfl), (Nat.le_of_ble_eq_true rfl)⟩ (Nat.le_of_ble_eq_true rfl) (Nat.le_of_ble_eq_true rfl) (by omega) (by omega) ?_
  refine z_max lj_X4_34 dX4_take_12 ⟨(Nat.le_of_ble_eq_true rfl), (Nat.le_of_ble_eq_true rfl)⟩ (Nat.le_of_ble_eq_true rfl) (Nat.le_of_ble_eq_true rfl) (by omega) (by omega) ?_
  refine z_putf fl_X4_24 dX4_take_15 m_o rfl (Nat.le_of_ble_eq_true rfl) rfl rfl (fun M m_o o => ?_)
  have e0 : max (0 : Int) (min (t2.length : Int) 250) = (t2.length : Int) := by omega
  have m_o : M mo = some (ob 4 [vI (t2.length : Int), .ref (mo + 1), .ref (mo + 2), .ref (mo + 3), .ref (mo + 4)]) := by rw [m_o, e0]; rfl
  have m_k := (o _ (by omega)).trans m_k
  have m_w := (o _ (by omega)).trans m_w
  have m_n := (o _ (by omega)).trans m_n
  have m_c := (o _ (by omega)).trans m_c
  have m_p := (o _ (by omega)).trans m_p
  have m_x1 := (o _ (by omega)).trans m_x1
  have m_x2 := (o _ (by omega)).trans m_x2
  have m_x3 := (o _ (by omega)).trans m_x3
  have m_x4 := (o _ (by omega)).trans m_x4
  have fr := fr.one o (by omega)
  refine g_aload_n dX4_take_18 rfl ?_
  refine z_getf fl_X4_9 dX4_take_19 m_p rfl ?_
  refine z_iconst dX4_take_22 ?_
  refine g_aload_n dX4_take_23 rfl ?_
  refine z_getf fl_X4_9 dX4_take_24 m_o rfl ?_
  refine z_iconst dX4_take_27 ?_
  refine g_aload_n dX4_take_28 rfl ?_
  refine z_getf fl_X4_24 dX4_take_29 m_o rfl ?_
  refine z_copy (jn := t2.length) lc_X4_37 dX4_take_32 ⟨(Nat.le_of_ble_eq_true rfl), (Nat.le_of_ble_eq_true rfl)⟩ m_x1 m_k (js := 0) (jd := 0) (by omega) (by omega) (by omega) (by omega) (by omega) (by omega) (by omega) (fun M m_k o => ?_)
  have m_o := (o _ (by omega)).trans m_o
  have m_w := (o _ (by omega)).trans m_w
  have m_n := (o _ (by omega)).trans m_n
  have m_c := (o _ (by omega)).trans m_c
  have m_p := (o _ (by omega)).trans m_p
  have m_x1 := (o _ (by omega)).trans m_x1
  have m_x2 := (o _ (by omega)).trans m_x2
  have m_x3 := (o _ (by omega)).trans m_x3
  have m_x4 := (o _ (by omega)).trans m_x4
  have fr := fr.one o (by omega)
  refine g_aload_n dX4_take_35 rfl ?_
  refine z_getf fl_X4_15 dX4_take_36 m_p rfl ?_
  refine z_iconst dX4_take_39 ?_
  refine g_aload_n dX4_take_40 rfl ?_
  refine z_getf fl_X4_15 dX4_take_41 m_o rfl ?_
  refine z_iconst dX4_take_44 ?_
  refine g_aload_n dX4_take_45 rfl ?_
  refine z_getf fl_X4_24 dX4_take_46 m_o rfl ?_
  refine z_copy (jn := t2.length) lc_X4_37 dX4_take_49 ⟨(Nat.le_of_ble_eq_true rfl), (Nat.le_of_ble_eq_true rfl)⟩ m_x2 m_w (js := 0) (jd := 0) (by omega) (by omega) (by omega) (by omega) (by omega) (by omega) (by omega) (fun M m_w o => ?_)
  have m_o := (o _ (by omega)).trans m_o
  have m_k := (o _ (by omega)).trans m_k
  have m_n := (o _ (by omega)).trans m_n
  have m_c := (o _ (by omega)).trans m_c
  have m_p := (o _ (by omega)).trans m_p
  have m_x1 := (o _ (by omega)).trans m_x1
  have m_x2 := (o _ (by omega)).trans m_x2
  have m_x3 := (o _ (by omega)).trans m_x3
  have m_x4 := (o _ (by omega)).trans m_x4
  have fr := fr.one o (by omega)
  refine g_aload_n dX4_take_52 rfl ?_
  refine z_getf fl_X4_18 dX4_take_53 m_p rfl ?_
  refine z_iconst dX4_take_56 ?_
  refine g_aload_n dX4_take_57 rfl ?_
  refine z_getf fl_X4_18 dX4_take_58 m_o rfl ?_
  refine z_iconst dX4_take_61 ?_
  refine g_aload_n dX4_take_62 rfl ?_
  refine z_getf fl_X4_24 dX4_take_63 m_o rfl ?_
  refine z_copy (jn := t2.length) lc_X4_37 dX4_take_66 ⟨(Nat.le_of_ble_eq_true rfl), (Nat.le_of_ble_eq_true rfl)⟩ m_x3 m_n (js := 0) (jd := 0) (by omega) (by omega) (by omega) (by omega) (by omega) (by omega) (by omega) (fun M m_n o => ?_)
  have m_o := (o _ (by omega)).trans m_o
  have m_k := (o _ (by omega)).trans m_k
  have m_w := (o _ (by omega)).trans m_w
  have m_c := (o _ (by omega)).trans m_c
  have m_p := (o _ (by omega)).trans m_p
  have m_x1 := (o _ (by omega)).trans m_x1
  have m_x2 := (o _ (by omega)).trans m_x2
  have m_x3 := (o _ (by omega)).trans m_x3
  have m_x4 := (o _ (by omega)).trans m_x4
  have fr := fr.one o (by omega)
  refine g_aload_n dX4_take_69 rfl ?_
  refine z_getf fl_X4_21 dX4_take_70 m_p rfl ?_
  refine z_iconst dX4_take_73 ?_
  refine g_aload_n dX4_take_74 rfl ?_
  refine z_getf fl_X4_21 dX4_take_75 m_o rfl ?_
  refine z_iconst dX4_take_78 ?_
  refine g_aload_n dX4_take_79 rfl ?_
  refine z_getf fl_X4_24 dX4_take_80 m_o rfl ?_
  refine z_bipush dX4_take_83 (by decide +kernel) ?_
  refine z_imul dX4_take_85 ?_
  refine z_copy (jn := t2.length * 96) lc_X4_37 dX4_take_86 ⟨(Nat.le_of_ble_eq_true rfl), (Nat.le_of_ble_eq_true rfl)⟩ m_x4 m_c (js := 0) (jd := 0) (by omega) (by omega) (by omega) (by omega) (by omega) (by omega) (by omega) (fun M m_c o => ?_)
  have m_o := (o _ (by omega)).trans m_o
  have m_k := (o _ (by omega)).trans m_k
  have m_w := (o _ (by omega)).trans m_w
  have m_n := (o _ (by omega)).trans m_n
  have m_p := (o _ (by omega)).trans m_p
  have m_x1 := (o _ (by omega)).trans m_x1
  have m_x2 := (o _ (by omega)).trans m_x2
  have m_x3 := (o _ (by omega)).trans m_x3
  have m_x4 := (o _ (by omega)).trans m_x4
  have fr := fr.one o (by omega)
  refine g_return dX4_take_89 rfl (Nat.le_of_ble_eq_true rfl) (Nat.le_of_ble_eq_true rfl) ⟨rfl, rfl, ⟨_, _, _, _, m_o, m_k, m_w, m_n, m_c, hlen2, hok2, fun i hi => ?_⟩, fr⟩
  obtain ⟨u1, u2, u3, u4⟩ := hg2 i hi
  unfold cpZ
  refine ⟨?_, ?_, ?_, fun x hx => ?_⟩
  · rw [if_pos (by omega), ← u1]; congr 1; omega
  · rw [if_pos (by omega), ← u2]; congr 1; omega
  · rw [if_pos (by omega), ← u3]; congr 1; omega
  · rw [if_pos (by omega), ← u4 x hx]; congr 1; omega
end
section
/-! the class Candidates: which of 96 symbols are excluded -/
def fi (p : Nat → Bool) (n : Nat) : Int := match (List.range n).find? p with
  | some i => i
  | none => -1
theorem fi_at {p : Nat → Bool} {n i : Nat} (h : i < n) (hp : p i = true) (hn : ∀ j, j < i → p j = false) : fi p n = i := by
  have e : (List.range n).find? p = some i := by
    rw [List.find?_range_eq_some]
    exact ⟨hp, by simpa using h, fun j hj => by simp [hn j hj]⟩
  unfold fi
  rw [e]
theorem fi_no {p : Nat → Bool} {n : Nat} (hn : ∀ j, j < n → p j = false) : fi p n = -1 := by
  have e : (List.range n).find? p = none := List.find?_eq_none.mpr (fun x hx => by simp [hn x (List.mem_range.mp hx)])
  unfold fi
  rw [e]
/-- the sum of the counts that are not excluded, of the symbols below n; how many are not excluded -/
def smx (ex : Nat → Bool) (c : Nat → Int) (n : Nat) : Int := sm (fun s => if ex s then 0 else c s) n
def cnx (ex : Nat → Bool) (n : Nat) : Int := sm (fun s => if ex s then 0 else 1) n
theorem smx_s (ex : Nat → Bool) (c : Nat → Int) (n : Nat) : smx ex c (n + 1) = smx ex c n + if ex n then 0 else c n := rfl
theorem cnx_s (ex : Nat → Bool) (n : Nat) : cnx ex (n + 1) = cnx ex n + if ex n then 0 else 1 := rfl
theorem cnx_rng (ex : Nat → Bool) (n : Nat) : 0 ≤ cnx ex n ∧ cnx ex n ≤ n := sm_01 (p := fun s => if ex s then 0 else 1) (fun s => by
  show (if ex s = true then (0 : Int) else 1) = 0 ∨ (if ex s = true then (0 : Int) else 1) = 1
  split
  · exact Or.inl rfl
  · exact Or.inr rfl)
theorem smx_le {ex : Nat → Bool} {c : Nat → Int} : ∀ {n : Nat}, (∀ s, s < n → 0 ≤ c s) → 0 ≤ smx ex c n ∧ smx ex c n ≤ sm c n
  | 0, _ => by simp [smx, sm]
  | n + 1, h => by
    have h1 := smx_le (ex := ex) (c := c) (n := n) (fun s hs => h s (by omega))
    have h2 := h n (by omega)
    rw [smx_s, sm]
    split <;> omega
theorem smx_rng {ex : Nat → Bool} {e : Int × (Nat → Int)} (h : okE e) {n : Nat} (hn : n ≤ 96) : 0 ≤ smx ex e.2 n ∧ smx ex e.2 n ≤ 1010 := by
  have h1 := smx_le (ex := ex) (c := e.2) (n := n) (fun s hs => h.2.1 s (by omega))
  have h2 := sm_mono (c := e.2) (n := 96) (m := n) hn h.2.1
  have h3 := h.2.2
  unfold wt at h3
  omega
def Ca (M : pM) (ca : Nat) (ex : Nat → Bool) : Prop := ∃ (u : Int) (g : Nat → Int), M ca = some (ob 0 [.ref (ca + 1), vI u]) ∧ M (ca + 1) = some (arZ 96 g) ∧ (u = 0 ∨ u = 1) ∧ (u = 1 → ∀ s, s < 96 → ex s = false) ∧ ∀ s, s < 96 → g s = if ex s then 1 else 0
theorem Ca.obj {M : pM} {ca : Nat} {ex : Nat → Bool} (h : Ca M ca ex) : ∃ u : Int, M ca = some (ob 0 [.ref (ca + 1), vI u]) := by obtain ⟨u, g, h1, -⟩ := h; exact ⟨u, h1⟩
theorem Ca.off {M M' : pM} {ca lo hi : Nat} {ex : Nat → Bool} (h : Ca M ca ex) (ho : Off M M' lo hi) (hd : ca + 2 ≤ lo ∨ hi ≤ ca) : Ca M' ca ex := by
  obtain ⟨u, g, h1, h2, h3⟩ := h
  exact ⟨u, g, (ho _ (by omega)).trans h1, (ho _ (by omega)).trans h2, h3⟩
set_option maxHeartbeats 1000000 in
theorem Ca_restart {M : pM} {z ca : Nat} {ex : Nat → Bool} (h : Ca M ca ex) : CW I_X0_restart yX0_restart [.ref ca] M z (fun M' r => r = none ∧ Ca M' ca (fun _ => false) ∧ Off M M' ca (ca + 2)) := by
  obtain ⟨u, g, m_q, m_a, hu, hue, hg⟩ := id h
  have fr : Off M M ca (ca + 2) := Off.rf
  refine C.intro (pl := [some (.ref ca), none]) pn_X0 rfl (fun h => absurd h (by decide)) rfl (Nat.le_of_ble_eq_true rfl) rfl ?_
  have loop : ∀ (n i : Nat) (M1 : pM) (g1 : Nat → Int), i ≤ 96 → 96 - i = n → Off M M1 ca (ca + 2) → M1 ca = some (ob 0 [.ref (ca + 1), vI u]) → M1 (ca + 1) = some (arZ 96 g1) → (∀ s, s < 96 → (s < i ∨ u = 1) → g1 s = 0) → G I_X0_restart 0 0 (fun M' z' r' => z' = z ∧ r' = none ∧ Ca M' ca (fun _ => false) ∧ Off M M' ca (ca + 2)) 0 0 2 [some (.ref ca), some (vI (i : Int))] [] M1 z := by
    intro n
    induction n with
    | zero =>
      intro i M g hi hn fr m_q m_a hz
      refine g_iload_n dX0_restart_2 rfl ?_
      refine g_aload_n dX0_restart_3 rfl ?_
      refine z_getf fl_X0_9 dX0_restart_4 m_q rfl ?_
      refine z_alenZ dX0_restart_7 m_a ?_
      refine z_icmp_ge (tgt := 31) dX0_restart_8 (by decide) (by omega) (by omega) (fun c8 => ?_) (fun c8 => absurd c8 (by omega))
      refine g_aload_n dX0_restart_31 rfl ?_
      refine z_iconst dX0_restart_32 ?_
      refine z_putf fl_X0_15 dX0_restart_33 m_q rfl (Nat.le_of_ble_eq_true rfl) rfl rfl (fun M m_q o => ?_)
      have m_a := (o _ (by omega)).trans m_a
      have fr := fr.one o (by omega)
      exact g_return dX0_restart_36 rfl (Nat.le_of_ble_eq_true rfl) (Nat.le_of_ble_eq_true rfl) ⟨rfl, rfl, ⟨1, g, m_q, m_a, Or.inr rfl, fun _ _ _ => rfl, fun s hs => hz s hs (by omega)⟩, fr⟩
    | succ n ih =>
      intro i M g hi hn fr m_q m_a hz
      refine g_iload_n dX0_restart_2 rfl ?_
      refine g_aload_n dX0_restart_3 rfl ?_
      refine z_getf fl_X0_9 dX0_restart_4 m_q rfl ?_
      refine z_alenZ dX0_restart_7 m_a ?_
      refine z_icmp_ge (tgt := 31) dX0_restart_8 (by decide) (by omega) (by omega) (fun c8 => absurd c8 (by omega)) (fun c8 => ?_)
      refine g_aload_n dX0_restart_11 rfl ?_
      refine z_getf fl_X0_15 dX0_restart_12 m_q rfl ?_
      refine z_if_ne (tgt := 31) dX0_restart_15 (by decide) (by omega) (fun c15 => ?_) (fun c15 => ?_)
      · refine g_aload_n dX0_restart_31 rfl ?_
        refine z_iconst dX0_restart_32 ?_
        refine z_putf fl_X0_15 dX0_restart_33 m_q rfl (Nat.le_of_ble_eq_true rfl) rfl rfl (fun M m_q o => ?_)
        have m_a := (o _ (by omega)).trans m_a
        have fr := fr.one o (by omega)
        exact g_return dX0_restart_36 rfl (Nat.le_of_ble_eq_true rfl) (Nat.le_of_ble_eq_true rfl) ⟨rfl, rfl, ⟨1, g, m_q, m_a, Or.inr rfl, fun _ _ _ => rfl, fun s hs => hz s hs (by omega)⟩, fr⟩
      · refine g_aload_n dX0_restart_18 rfl ?_
        refine z_getf fl_X0_9 dX0_restart_19 m_q rfl ?_
        refine g_iload_n dX0_restart_22 rfl ?_
        refine z_iconst dX0_restart_23 ?_
        refine z_bastore (j := i) dX0_restart_24 m_a (by omega) (by omega) (by omega) (by omega) (fun M m_a o => ?_)
        have m_q := (o _ (by omega)).trans m_q
        have fr := fr.one o (by omega)
        refine z_iinc dX0_restart_25 rfl (Nat.le_of_ble_eq_true rfl) ?_
        refine g_goto (tgt := 2) dX0_restart_28 (by decide) ?_
        exact ih (i + 1) M _ (by omega) (by omega) fr m_q m_a (fun s hs hh => by
          by_cases e : s = i
          · subst e; rw [upZ_s]
          · rw [upZ_n e]; exact hz s hs (by omega))
  refine z_iconst dX0_restart_0 ?_
  refine g_istore_n dX0_restart_1 rfl (Nat.le_of_ble_eq_true rfl) ?_
  exact loop 96 0 M g (Nat.zero_le _) rfl fr m_q m_a (fun s hs hh => by rw [hg s hs, hue (by omega) s hs]; rfl)
set_option maxHeartbeats 1000000 in
theorem Ca_remains {M : pM} {z ca s : Nat} {ex : Nat → Bool} (h : Ca M ca ex) (hs : s < 96) : CR I_X0_remains yX0_remains [.ref ca, vI (s : Int)] M z (some (vI (if ex s then 0 else 1))) := by
  obtain ⟨u, g, m_q, m_a, hu, hue, hg⟩ := id h
  have hgs := hg s hs
  refine C.intro (pl := [some (.ref ca), some (vI (s : Int))]) pn_X0 rfl (fun h => absurd h (by decide)) rfl (Nat.le_of_ble_eq_true rfl) rfl ?_
  by_cases he : ex s = true
  · rw [if_pos he] at hgs
    refine g_iload_n dX0_remains_0 rfl ?_
    refine z_if_lt (tgt := 26) dX0_remains_1 (by decide) (by omega) (fun c1 => absurd c1 (by omega)) (fun c1 => ?_)
    refine g_iload_n dX0_remains_4 rfl ?_
    refine g_aload_n dX0_remains_5 rfl ?_
    refine z_getf fl_X0_9 dX0_remains_6 m_q rfl ?_
    refine z_alenZ dX0_remains_9 m_a ?_
    refine z_icmp_ge (tgt := 26) dX0_remains_10 (by decide) (by omega) (by omega) (fun c10 => absurd c10 (by omega)) (fun c10 => ?_)
    refine g_aload_n dX0_remains_13 rfl ?_
    refine z_getf fl_X0_9 dX0_remains_14 m_q rfl ?_
    refine g_iload_n dX0_remains_17 rfl ?_
    refine z_baload (j := s) dX0_remains_18 m_a (by omega) (by omega) (by omega) ?_
    refine z_if_ne (tgt := 26) dX0_remains_19 (by decide) (by omega) (fun c19 => ?_) (fun c19 => absurd c19 (by omega))
    refine z_iconst dX0_remains_26 ?_
    exact g_zreturn dX0_remains_27 rfl (by first | rfl | decide) (Nat.le_of_ble_eq_true rfl) (Nat.le_of_ble_eq_true rfl) ⟨rfl, rfl, by rw [if_pos he]⟩
  · rw [if_neg he] at hgs
    refine g_iload_n dX0_remains_0 rfl ?_
    refine z_if_lt (tgt := 26) dX0_remains_1 (by decide) (by omega) (fun c1 => absurd c1 (by omega)) (fun c1 => ?_)
    refine g_iload_n dX0_remains_4 rfl ?_
    refine g_aload_n dX0_remains_5 rfl ?_
    refine z_getf fl_X0_9 dX0_remains_6 m_q rfl ?_
    refine z_alenZ dX0_remains_9 m_a ?_
    refine z_icmp_ge (tgt := 26) dX0_remains_10 (by decide) (by omega) (by omega) (fun c10 => absurd c10 (by omega)) (fun c10 => ?_)
    refine g_aload_n dX0_remains_13 rfl ?_
    refine z_getf fl_X0_9 dX0_remains_14 m_q rfl ?_
    refine g_iload_n dX0_remains_17 rfl ?_
    refine z_baload (j := s) dX0_remains_18 m_a (by omega) (by omega) (by omega) ?_
    refine z_if_ne (tgt := 26) dX0_remains_19 (by decide) (by omega) (fun c19 => absurd c19 (by omega)) (fun c19 => ?_)
    refine z_iconst dX0_remains_22 ?_
    refine g_goto (tgt := 27) dX0_remains_23 (by decide) ?_
    exact g_zreturn dX0_remains_27 rfl (by first | rfl | decide) (Nat.le_of_ble_eq_true rfl) (Nat.le_of_ble_eq_true rfl) ⟨rfl, rfl, by rw [if_neg he]⟩
theorem Ca_remains_t {M : pM} {z ca s : Nat} {ex : Nat → Bool} (h : Ca M ca ex) (hs : s < 96) (he : ex s = false) : CR I_X0_remains yX0_remains [.ref ca, vI (s : Int)] M z (some (vI 1)) := (Ca_remains h hs).eq (by rw [he]; rfl)
theorem Ca_remains_f {M : pM} {z ca s : Nat} {ex : Nat → Bool} (h : Ca M ca ex) (hs : s < 96) (he : ex s = true) : CR I_X0_remains yX0_remains [.ref ca, vI (s : Int)] M z (some (vI 0)) := (Ca_remains h hs).eq (by rw [he]; rfl)
set_option maxHeartbeats 1000000 in
theorem Ca_holds {M : pM} {z ca mo i s : Nat} {ex : Nat → Bool} {t : tbl} (h : Ca M ca ex) (hm : Md M mo t) (hi : i < t.length) (hs : s < 96) : CR I_X0_holds yX0_holds [.ref ca, .ref mo, vI (i : Int), vI (s : Int)] M z (some (vI (if ex s = false ∧ 0 < t[i].2 s then 1 else 0))) := by
  obtain ⟨u, g, m_q, m_a, hu, hue, hg⟩ := id h
  have m_o := hm.obj
  have hok := hm.ok _ (List.getElem_mem hi)
  have hc := hok.cnt hs
  refine C.intro (pl := [some (.ref ca), some (.ref mo), some (vI (i : Int)), some (vI (s : Int))]) pn_X0 rfl (fun h => absurd h (by decide)) rfl (Nat.le_of_ble_eq_true rfl) rfl ?_
  by_cases he : ex s = true
  · refine g_aload_n dX0_holds_0 rfl ?_
    refine g_iload_n dX0_holds_1 rfl ?_
    refine z_callVR dX0_holds_2 lm_X0_19 lk_X0_remains (Ca_remains_f h (by omega) he) rfl rfl m_q rfl (mkRoom rfl rfl) (Nat.le_of_ble_eq_true rfl) (Nat.le_of_ble_eq_true rfl) (Nat.le_of_ble_eq_true rfl) ?_
    refine z_if_eq (tgt := 21) dX0_holds_5 (by decide) (by omega) (fun c5 => ?_) (fun c5 => absurd c5 (by omega))
    refine z_iconst dX0_holds_21 ?_
    exact g_zreturn dX0_holds_22 rfl (by first | rfl | decide) (Nat.le_of_ble_eq_true rfl) (Nat.le_of_ble_eq_true rfl) ⟨rfl, rfl, by first | (rw [if_pos ⟨by simpa using he, by omega⟩]) | (rw [if_neg (fun q => absurd q.2 (by omega))]) | (rw [if_neg (fun q => by rw [he] at q; exact absurd q.1 (by decide))])⟩
  · refine g_aload_n dX0_holds_0 rfl ?_
    refine g_iload_n dX0_holds_1 rfl ?_
    refine z_callVR dX0_holds_2 lm_X0_19 lk_X0_remains (Ca_remains_t h (by omega) (by simpa using he)) rfl rfl m_q rfl (mkRoom rfl rfl) (Nat.le_of_ble_eq_true rfl) (Nat.le_of_ble_eq_true rfl) (Nat.le_of_ble_eq_true rfl) ?_
    refine z_if_eq (tgt := 21) dX0_holds_5 (by decide) (by omega) (fun c5 => absurd c5 (by omega)) (fun c5 => ?_)
    refine g_aload_n dX0_holds_8 rfl ?_
    refine g_iload_n dX0_holds_9 rfl ?_
    refine g_iload_n dX0_holds_10 rfl ?_
    refine z_callVR dX0_holds_11 lm_X0_23 lk_X4_countIn (Md_countIn hm hi hs) rfl rfl m_o rfl (mkRoom rfl rfl) (Nat.le_of_ble_eq_true rfl) (Nat.le_of_ble_eq_true rfl) (Nat.le_of_ble_eq_true rfl) ?_
    refine z_if_le (tgt := 21) dX0_holds_14 (by decide) (by omega) (fun c14 => ?_) (fun c14 => ?_)
    · refine z_iconst dX0_holds_21 ?_
      exact g_zreturn dX0_holds_22 rfl (by first | rfl | decide) (Nat.le_of_ble_eq_true rfl) (Nat.le_of_ble_eq_true rfl) ⟨rfl, rfl, by first | (rw [if_pos ⟨by simpa using he, by omega⟩]) | (rw [if_neg (fun q => absurd q.2 (by omega))]) | (rw [if_neg (fun q => by rw [he] at q; exact absurd q.1 (by decide))])⟩
    · refine z_iconst dX0_holds_17 ?_
      refine g_goto (tgt := 22) dX0_holds_18 (by decide) ?_
      exact g_zreturn dX0_holds_22 rfl (by first | rfl | decide) (Nat.le_of_ble_eq_true rfl) (Nat.le_of_ble_eq_true rfl) ⟨rfl, rfl, by first | (rw [if_pos ⟨by simpa using he, by omega⟩]) | (rw [if_neg (fun q => absurd q.2 (by omega))]) | (rw [if_neg (fun q => by rw [he] at q; exact absurd q.1 (by decide))])⟩
set_option maxHeartbeats 1000000 in
theorem Ca_sumBelow {M : pM} {z ca mo i n : Nat} {ex : Nat → Bool} {t : tbl} (h : Ca M ca ex) (hm : Md M mo t) (hi : i < t.length) (hn : n ≤ 96) : CR I_X0_sumBelow yX0_sumBelow [.ref ca, .ref mo, vI (i : Int), vI (n : Int)] M z (some (vI (smx ex t[i].2 n))) := by
  obtain ⟨u, g, m_q, m_a, hu, hue, hg⟩ := id h
  have m_o := hm.obj
  have hok := hm.ok _ (List.getElem_mem hi)
  refine C.intro (pl := [some (.ref ca), some (.ref mo), some (vI (i : Int)), some (vI (n : Int)), none, none]) pn_X0 rfl (fun h => absurd h (by decide)) rfl (Nat.le_of_ble_eq_true rfl) rfl ?_
  have loop : ∀ (k s : Nat), s ≤ n → n - s = k → G I_X0_sumBelow 0 0 (fun M' z' r' => M' = M ∧ z' = z ∧ r' = some (vI (smx ex t[i].2 n))) 0 0 6 [some (.ref ca), some (.ref mo), some (vI (i : Int)), some (vI (n : Int)), some (vI (smx ex t[i].2 s)), some (vI (s : Int))] [] M z := by
    intro k
    induction k with
    | zero =>
      intro s hs hk
      have e : s = n := by omega
      subst e
      refine g_iload dX0_sumBelow_6 rfl ?_
      refine g_iload_n dX0_sumBelow_8 rfl ?_
      refine z_icmp_ge (tgt := 39) dX0_sumBelow_9 (by decide) (by omega) (by omega) (fun c9 => ?_) (fun c9 => absurd c9 (by omega))
      refine g_iload dX0_sumBelow_39 rfl ?_
      exact g_ireturn dX0_sumBelow_41 rfl (Nat.le_of_ble_eq_true rfl) (Nat.le_of_ble_eq_true rfl) ⟨rfl, rfl, rfl⟩
    | succ k ih =>
      intro s hs hk
      have ih2 := ih (s + 1) (by omega) (by omega)
      rw [smx_s] at ih2
      by_cases he : ex s = true
      · rw [if_pos he, Int.add_zero] at ih2
        refine g_iload dX0_sumBelow_6 rfl ?_
        refine g_iload_n dX0_sumBelow_8 rfl ?_
        refine z_icmp_ge (tgt := 39) dX0_sumBelow_9 (by decide) (by omega) (by omega) (fun c9 => absurd c9 (by omega)) (fun c9 => ?_)
        refine g_aload_n dX0_sumBelow_12 rfl ?_
        refine g_iload dX0_sumBelow_13 rfl ?_
        refine z_callVR dX0_sumBelow_15 lm_X0_19 lk_X0_remains (Ca_remains_f h (by omega) he) rfl rfl m_q rfl (mkRoom rfl rfl) (Nat.le_of_ble_eq_true rfl) (Nat.le_of_ble_eq_true rfl) (Nat.le_of_ble_eq_true rfl) ?_
        refine z_if_eq (tgt := 33) dX0_sumBelow_18 (by decide) (by omega) (fun c18 => ?_) (fun c18 => absurd c18 (by omega))
        refine z_iinc dX0_sumBelow_33 rfl (Nat.le_of_ble_eq_true rfl) ?_
        refine g_goto (tgt := 6) dX0_sumBelow_36 (by decide) ?_
        exact ih2
      · rw [if_neg he] at ih2
        refine g_iload dX0_sumBelow_6 rfl ?_
        refine g_iload_n dX0_sumBelow_8 rfl ?_
        refine z_icmp_ge (tgt := 39) dX0_sumBelow_9 (by decide) (by omega) (by omega) (fun c9 => absurd c9 (by omega)) (fun c9 => ?_)
        refine g_aload_n dX0_sumBelow_12 rfl ?_
        refine g_iload dX0_sumBelow_13 rfl ?_
        refine z_callVR dX0_sumBelow_15 lm_X0_19 lk_X0_remains (Ca_remains_t h (by omega) (by simpa using he)) rfl rfl m_q rfl (mkRoom rfl rfl) (Nat.le_of_ble_eq_true rfl) (Nat.le_of_ble_eq_true rfl) (Nat.le_of_ble_eq_true rfl) ?_
        refine z_if_eq (tgt := 33) dX0_sumBelow_18 (by decide) (by omega) (fun c18 => absurd c18 (by omega)) (fun c18 => ?_)
        refine g_iload dX0_sumBelow_21 rfl ?_
        refine g_aload_n dX0_sumBelow_23 rfl ?_
        refine g_iload_n dX0_sumBelow_24 rfl ?_
        refine g_iload dX0_sumBelow_25 rfl ?_
        refine z_callVR dX0_sumBelow_27 lm_X0_23 lk_X4_countIn (Md_countIn (s := s) hm hi (by omega)) rfl rfl m_o rfl (mkRoom rfl rfl) (Nat.le_of_ble_eq_true rfl) (Nat.le_of_ble_eq_true rfl) (Nat.le_of_ble_eq_true rfl) ?_
        refine z_iadd dX0_sumBelow_30 ?_
        refine g_istore dX0_sumBelow_31 (Nat.le_of_ble_eq_true rfl) ?_
        refine z_iinc dX0_sumBelow_33 rfl (Nat.le_of_ble_eq_true rfl) ?_
        refine g_goto (tgt := 6) dX0_sumBelow_36 (by decide) ?_
        exact ih2
  refine z_iconst dX0_sumBelow_0 ?_
  refine g_istore dX0_sumBelow_1 (Nat.le_of_ble_eq_true rfl) ?_
  refine z_iconst dX0_sumBelow_3 ?_
  refine g_istore dX0_sumBelow_4 (Nat.le_of_ble_eq_true rfl) ?_
  exact loop n 0 (Nat.zero_le _) (by omega)
set_option maxHeartbeats 1000000 in
theorem Ca_symbolAt {M : pM} {z ca mo i : Nat} {num : Int} {ex : Nat → Bool} {t : tbl} (h : Ca M ca ex) (hm : Md M mo t) (hi : i < t.length) (hn : -2147483648 ≤ num ∧ num < 2147483648) : CR I_X0_symbolAt yX0_symbolAt [.ref ca, .ref mo, vI (i : Int), vI num] M z (some (vI (fi (fun s => decide (num < smx ex t[i].2 (s + 1))) 96))) := by
  obtain ⟨u, g, m_q, m_a, hu, hue, hg⟩ := id h
  have m_o := hm.obj
  have hok := hm.ok _ (List.getElem_mem hi)
  refine C.intro (pl := [some (.ref ca), some (.ref mo), some (vI (i : Int)), some (vI num), none, none]) pn_X0 rfl (fun h => absurd h (by decide)) rfl (Nat.le_of_ble_eq_true rfl) rfl ?_
  have loop : ∀ (k s : Nat), s ≤ 96 → 96 - s = k → (∀ j, j < s → smx ex t[i].2 (j + 1) ≤ num) → G I_X0_symbolAt 0 0 (fun M' z' r' => M' = M ∧ z' = z ∧ r' = some (vI (fi (fun s => decide (num < smx ex t[i].2 (s + 1))) 96))) 0 0 6 [some (.ref ca), some (.ref mo), some (vI (i : Int)), some (vI num), some (vI (smx ex t[i].2 s)), some (vI (s : Int))] [] M z := by
    intro k
    induction k with
    | zero =>
      intro s hs hk hj
      have e : s = 96 := by omega
      subst e
      refine g_iload dX0_symbolAt_6 rfl ?_
      refine z_bipush dX0_symbolAt_8 (by decide +kernel) ?_
      refine z_icmp_ge (tgt := 49) dX0_symbolAt_10 (by decide) (by omega) (by omega) (fun c10 => ?_) (fun c10 => absurd c10 (by omega))
      refine z_iconst dX0_symbolAt_49 ?_
      exact g_ireturn dX0_symbolAt_50 rfl (Nat.le_of_ble_eq_true rfl) (Nat.le_of_ble_eq_true rfl) ⟨rfl, rfl, by rw [fi_no (fun j h => by have := hj j h; simp; omega)]⟩
    | succ k ih =>
      intro s hs hk hj
      have hs2 : s < 96 := by omega
      have hr := smx_rng (ex := ex) hok (n := s + 1) (by omega)
      have hx := smx_s ex t[i].2 s
      have fin : num < smx ex t[i].2 (s + 1) → fi (fun s => decide (num < smx ex t[i].2 (s + 1))) 96 = s := fun hl => fi_at hs2 (by simpa using hl) (fun j h => by have := hj j h; simp; omega)
      have ih2 : smx ex t[i].2 (s + 1) ≤ num → _ := fun hl => ih (s + 1) (by omega) (by omega) (fun j h => by
        by_cases e : j = s
        · subst e; exact hl
        · exact hj j (by omega))
      by_cases he : ex s = true
      · rw [if_pos he, Int.add_zero] at hx
        refine g_iload dX0_symbolAt_6 rfl ?_
        refine z_bipush dX0_symbolAt_8 (by decide +kernel) ?_
        refine z_icmp_ge (tgt := 49) dX0_symbolAt_10 (by decide) (by omega) (by omega) (fun c10 => absurd c10 (by omega)) (fun c10 => ?_)
        refine g_aload_n dX0_symbolAt_13 rfl ?_
        refine g_iload dX0_symbolAt_14 rfl ?_
        refine z_callVR dX0_symbolAt_16 lm_X0_19 lk_X0_remains (Ca_remains_f h (by omega) he) rfl rfl m_q rfl (mkRoom rfl rfl) (Nat.le_of_ble_eq_true rfl) (Nat.le_of_ble_eq_true rfl) (Nat.le_of_ble_eq_true rfl) ?_
        refine z_if_eq (tgt := 34) dX0_symbolAt_19 (by decide) (by omega) (fun c19 => ?_) (fun c19 => absurd c19 (by omega))
        refine g_iload dX0_symbolAt_34 rfl ?_
        refine g_iload_n dX0_symbolAt_36 rfl ?_
        refine z_icmp_le (tgt := 43) dX0_symbolAt_37 (by decide) (by omega) (by omega) (fun c37 => ?_) (fun c37 => ?_)
        · refine z_iinc dX0_symbolAt_43 rfl (Nat.le_of_ble_eq_true rfl) ?_
          refine g_goto (tgt := 6) dX0_symbolAt_46 (by decide) ?_
          refine (?_ : G _ _ _ _ _ _ _ _ _ _ _)
          have ih3 := ih2 (by omega)
          rw [hx] at ih3
          exact ih3
        · refine g_iload dX0_symbolAt_40 rfl ?_
          exact g_ireturn dX0_symbolAt_42 rfl (Nat.le_of_ble_eq_true rfl) (Nat.le_of_ble_eq_true rfl) ⟨rfl, rfl, by rw [fin (by omega)]⟩
      · rw [if_neg he] at hx
        refine g_iload dX0_symbolAt_6 rfl ?_
        refine z_bipush dX0_symbolAt_8 (by decide +kernel) ?_
        refine z_icmp_ge (tgt := 49) dX0_symbolAt_10 (by decide) (by omega) (by omega) (fun c10 => absurd c10 (by omega)) (fun c10 => ?_)
        refine g_aload_n dX0_symbolAt_13 rfl ?_
        refine g_iload dX0_symbolAt_14 rfl ?_
        refine z_callVR dX0_symbolAt_16 lm_X0_19 lk_X0_remains (Ca_remains_t h (by omega) (by simpa using he)) rfl rfl m_q rfl (mkRoom rfl rfl) (Nat.le_of_ble_eq_true rfl) (Nat.le_of_ble_eq_true rfl) (Nat.le_of_ble_eq_true rfl) ?_
        refine z_if_eq (tgt := 34) dX0_symbolAt_19 (by decide) (by omega) (fun c19 => absurd c19 (by omega)) (fun c19 => ?_)
        refine g_iload dX0_symbolAt_22 rfl ?_
        refine g_aload_n dX0_symbolAt_24 rfl ?_
        refine g_iload_n dX0_symbolAt_25 rfl ?_
        refine g_iload dX0_symbolAt_26 rfl ?_
        refine z_callVR dX0_symbolAt_28 lm_X0_23 lk_X4_countIn (Md_countIn (s := s) hm hi hs2) rfl rfl m_o rfl (mkRoom rfl rfl) (Nat.le_of_ble_eq_true rfl) (Nat.le_of_ble_eq_true rfl) (Nat.le_of_ble_eq_true rfl) ?_
        refine z_iadd dX0_symbolAt_31 ?_
        refine g_istore dX0_symbolAt_32 (Nat.le_of_ble_eq_true rfl) ?_
        refine g_iload dX0_symbolAt_34 rfl ?_
        refine g_iload_n dX0_symbolAt_36 rfl ?_
        refine z_icmp_le (tgt := 43) dX0_symbolAt_37 (by decide) (by omega) (by omega) (fun c37 => ?_) (fun c37 => ?_)
        · refine z_iinc dX0_symbolAt_43 rfl (Nat.le_of_ble_eq_true rfl) ?_
          refine g_goto (tgt := 6) dX0_symbolAt_46 (by decide) ?_
          refine (?_ : G _ _ _ _ _ _ _ _ _ _ _)
          have ih3 := ih2 (by omega)
          rw [hx] at ih3
          exact ih3
        · refine g_iload dX0_symbolAt_40 rfl ?_
          exact g_ireturn dX0_symbolAt_42 rfl (Nat.le_of_ble_eq_true rfl) (Nat.le_of_ble_eq_true rfl) ⟨rfl, rfl, by rw [fin (by omega)]⟩
  refine z_iconst dX0_symbolAt_0 ?_
  refine g_istore dX0_symbolAt_1 (Nat.le_of_ble_eq_true rfl) ?_
  refine z_iconst dX0_symbolAt_3 ?_
  refine g_istore dX0_symbolAt_4 (Nat.le_of_ble_eq_true rfl) ?_
  exact loop 96 0 (Nat.zero_le _) (by omega) (fun j h => absurd h (Nat.not_lt_zero _))
set_option maxHeartbeats 1000000 in
theorem Ca_remainingBelow {M : pM} {z ca n : Nat} {ex : Nat → Bool} (h : Ca M ca ex) (hn : n ≤ 96) : CR I_X0_remainingBelow yX0_remainingBelow [.ref ca, vI (n : Int)] M z (some (vI (cnx ex n))) := by
  obtain ⟨u, g, m_q, m_a, hu, hue, hg⟩ := id h
  refine C.intro (pl := [some (.ref ca), some (vI (n : Int)), none, none]) pn_X0 rfl (fun h => absurd h (by decide)) rfl (Nat.le_of_ble_eq_true rfl) rfl ?_
  have loop : ∀ (k s : Nat), s ≤ n → n - s = k → G I_X0_remainingBelow 0 0 (fun M' z' r' => M' = M ∧ z' = z ∧ r' = some (vI (cnx ex n))) 0 0 4 [some (.ref ca), some (vI (n : Int)), some (vI (cnx ex s)), some (vI (s : Int))] [] M z := by
    intro k
    induction k with
    | zero =>
      intro s hs hk
      have e : s = n := by omega
      subst e
      refine g_iload_n dX0_remainingBelow_4 rfl ?_
      refine g_iload_n dX0_remainingBelow_5 rfl ?_
      refine z_icmp_ge (tgt := 26) dX0_remainingBelow_6 (by decide) (by omega) (by omega) (fun c6 => ?_) (fun c6 => absurd c6 (by omega))
      refine g_iload_n dX0_remainingBelow_26 rfl ?_
      exact g_ireturn dX0_remainingBelow_27 rfl (Nat.le_of_ble_eq_true rfl) (Nat.le_of_ble_eq_true rfl) ⟨rfl, rfl, rfl⟩
    | succ k ih =>
      intro s hs hk
      have ih2 := ih (s + 1) (by omega) (by omega)
      rw [cnx_s] at ih2
      by_cases he : ex s = true
      · rw [if_pos he, Int.add_zero] at ih2
        refine g_iload_n dX0_remainingBelow_4 rfl ?_
        refine g_iload_n dX0_remainingBelow_5 rfl ?_
        refine z_icmp_ge (tgt := 26) dX0_remainingBelow_6 (by decide) (by omega) (by omega) (fun c6 => absurd c6 (by omega)) (fun c6 => ?_)
        refine g_aload_n dX0_remainingBelow_9 rfl ?_
        refine g_iload_n dX0_remainingBelow_10 rfl ?_
        refine z_callVR dX0_remainingBelow_11 lm_X0_19 lk_X0_remains (Ca_remains_f h (by omega) he) rfl rfl m_q rfl (mkRoom rfl rfl) (Nat.le_of_ble_eq_true rfl) (Nat.le_of_ble_eq_true rfl) (Nat.le_of_ble_eq_true rfl) ?_
        refine z_if_eq (tgt := 20) dX0_remainingBelow_14 (by decide) (by omega) (fun c14 => ?_) (fun c14 => absurd c14 (by omega))
        refine z_iinc dX0_remainingBelow_20 rfl (Nat.le_of_ble_eq_true rfl) ?_
        refine g_goto (tgt := 4) dX0_remainingBelow_23 (by decide) ?_
        exact ih2
      · rw [if_neg he] at ih2
        refine g_iload_n dX0_remainingBelow_4 rfl ?_
        refine g_iload_n dX0_remainingBelow_5 rfl ?_
        refine z_icmp_ge (tgt := 26) dX0_remainingBelow_6 (by decide) (by omega) (by omega) (fun c6 => absurd c6 (by omega)) (fun c6 => ?_)
        refine g_aload_n dX0_remainingBelow_9 rfl ?_
        refine g_iload_n dX0_remainingBelow_10 rfl ?_
        refine z_callVR dX0_remainingBelow_11 lm_X0_19 lk_X0_remains (Ca_remains_t h (by omega) (by simpa using he)) rfl rfl m_q rfl (mkRoom rfl rfl) (Nat.le_of_ble_eq_true rfl) (Nat.le_of_ble_eq_true rfl) (Nat.le_of_ble_eq_true rfl) ?_
        refine z_if_eq (tgt := 20) dX0_remainingBelow_14 (by decide) (by omega) (fun c14 => absurd c14 (by omega)) (fun c14 => ?_)
        refine z_iinc dX0_remainingBelow_17 rfl (Nat.le_of_ble_eq_true rfl) ?_
        refine z_iinc dX0_remainingBelow_20 rfl (Nat.le_of_ble_eq_true rfl) ?_
        refine g_goto (tgt := 4) dX0_remainingBelow_23 (by decide) ?_
        exact ih2
  refine z_iconst dX0_remainingBelow_0 ?_
  refine g_istore_n dX0_remainingBelow_1 rfl (Nat.le_of_ble_eq_true rfl) ?_
  refine z_iconst dX0_remainingBelow_2 ?_
  refine g_istore_n dX0_remainingBelow_3 rfl (Nat.le_of_ble_eq_true rfl) ?_
  exact loop n 0 (Nat.zero_le _) (by omega)
set_option maxHeartbeats 1000000 in
theorem Ca_remainingAt {M : pM} {z ca : Nat} {num : Int} {ex : Nat → Bool} (h : Ca M ca ex) (hn : -2147483648 ≤ num ∧ num < 2147483648) : CR I_X0_remainingAt yX0_remainingAt [.ref ca, vI num] M z (some (vI (fi (fun s => decide (num < cnx ex (s + 1))) 96))) := by
  obtain ⟨u, g, m_q, m_a, hu, hue, hg⟩ := id h
  refine C.intro (pl := [some (.ref ca), some (vI num), none, none]) pn_X0 rfl (fun h => absurd h (by decide)) rfl (Nat.le_of_ble_eq_true rfl) rfl ?_
  have loop : ∀ (k s : Nat), s ≤ 96 → 96 - s = k → (∀ j, j < s → cnx ex (j + 1) ≤ num) → G I_X0_remainingAt 0 0 (fun M' z' r' => M' = M ∧ z' = z ∧ r' = some (vI (fi (fun s => decide (num < cnx ex (s + 1))) 96))) 0 0 4 [some (.ref ca), some (vI num), some (vI (cnx ex s)), some (vI (s : Int))] [] M z := by
    intro k
    induction k with
    | zero =>
      intro s hs hk hj
      have e : s = 96 := by omega
      subst e
      refine g_iload_n dX0_remainingAt_4 rfl ?_
      refine z_bipush dX0_remainingAt_5 (by decide +kernel) ?_
      refine z_icmp_ge (tgt := 34) dX0_remainingAt_7 (by decide) (by omega) (by omega) (fun c7 => ?_) (fun c7 => absurd c7 (by omega))
      refine z_iconst dX0_remainingAt_34 ?_
      exact g_ireturn dX0_remainingAt_35 rfl (Nat.le_of_ble_eq_true rfl) (Nat.le_of_ble_eq_true rfl) ⟨rfl, rfl, by rw [fi_no (fun j h => by have := hj j h; simp; omega)]⟩
    | succ k ih =>
      intro s hs hk hj
      have hs2 : s < 96 := by omega
      have hr := cnx_rng ex (s + 1)
      have hx := cnx_s ex s
      have fin : num < cnx ex (s + 1) → fi (fun s => decide (num < cnx ex (s + 1))) 96 = s := fun hl => fi_at hs2 (by simpa using hl) (fun j h => by have := hj j h; simp; omega)
      have ih2 : cnx ex (s + 1) ≤ num → _ := fun hl => ih (s + 1) (by omega) (by omega) (fun j h => by
        by_cases e : j = s
        · subst e; exact hl
        · exact hj j (by omega))
      by_cases he : ex s = true
      · rw [if_pos he, Int.add_zero] at hx
        refine g_iload_n dX0_remainingAt_4 rfl ?_
        refine z_bipush dX0_remainingAt_5 (by decide +kernel) ?_
        refine z_icmp_ge (tgt := 34) dX0_remainingAt_7 (by decide) (by omega) (by omega) (fun c7 => absurd c7 (by omega)) (fun c7 => ?_)
        refine g_aload_n dX0_remainingAt_10 rfl ?_
        refine g_iload_n dX0_remainingAt_11 rfl ?_
        refine z_callVR dX0_remainingAt_12 lm_X0_19 lk_X0_remains (Ca_remains_f h (by omega) he) rfl rfl m_q rfl (mkRoom rfl rfl) (Nat.le_of_ble_eq_true rfl) (Nat.le_of_ble_eq_true rfl) (Nat.le_of_ble_eq_true rfl) ?_
        refine z_if_eq (tgt := 21) dX0_remainingAt_15 (by decide) (by omega) (fun c15 => ?_) (fun c15 => absurd c15 (by omega))
        refine g_iload_n dX0_remainingAt_21 rfl ?_
        refine g_iload_n dX0_remainingAt_22 rfl ?_
        refine z_icmp_le (tgt := 28) dX0_remainingAt_23 (by decide) (by omega) (by omega) (fun c23 => ?_) (fun c23 => ?_)
        · refine z_iinc dX0_remainingAt_28 rfl (Nat.le_of_ble_eq_true rfl) ?_
          refine g_goto (tgt := 4) dX0_remainingAt_31 (by decide) ?_
          refine (?_ : G _ _ _ _ _ _ _ _ _ _ _)
          have ih3 := ih2 (by omega)
          rw [hx] at ih3
          exact ih3
        · refine g_iload_n dX0_remainingAt_26 rfl ?_
          exact g_ireturn dX0_remainingAt_27 rfl (Nat.le_of_ble_eq_true rfl) (Nat.le_of_ble_eq_true rfl) ⟨rfl, rfl, by rw [fin (by omega)]⟩
      · rw [if_neg he] at hx
        refine g_iload_n dX0_remainingAt_4 rfl ?_
        refine z_bipush dX0_remainingAt_5 (by decide +kernel) ?_
        refine z_icmp_ge (tgt := 34) dX0_remainingAt_7 (by decide) (by omega) (by omega) (fun c7 => absurd c7 (by omega)) (fun c7 => ?_)
        refine g_aload_n dX0_remainingAt_10 rfl ?_
        refine g_iload_n dX0_remainingAt_11 rfl ?_
        refine z_callVR dX0_remainingAt_12 lm_X0_19 lk_X0_remains (Ca_remains_t h (by omega) (by simpa using he)) rfl rfl m_q rfl (mkRoom rfl rfl) (Nat.le_of_ble_eq_true rfl) (Nat.le_of_ble_eq_true rfl) (Nat.le_of_ble_eq_true rfl) ?_
        refine z_if_eq (tgt := 21) dX0_remainingAt_15 (by decide) (by omega) (fun c15 => absurd c15 (by omega)) (fun c15 => ?_)
        refine z_iinc dX0_remainingAt_18 rfl (Nat.le_of_ble_eq_true rfl) ?_
        refine g_iload_n dX0_remainingAt_21 rfl ?_
        refine g_iload_n dX0_remainingAt_22 rfl ?_
        refine z_icmp_le (tgt := 28) dX0_remainingAt_23 (by decide) (by omega) (by omega) (fun c23 => ?_) (fun c23 => ?_)
        · refine z_iinc dX0_remainingAt_28 rfl (Nat.le_of_ble_eq_true rfl) ?_
          refine g_goto (tgt := 4) dX0_remainingAt_31 (by decide) ?_
          refine (?_ : G _ _ _ _ _ _ _ _ _ _ _)
          have ih3 := ih2 (by omega)
          rw [hx] at ih3
          exact ih3
        · refine g_iload_n dX0_remainingAt_26 rfl ?_
          exact g_ireturn dX0_remainingAt_27 rfl (Nat.le_of_ble_eq_true rfl) (Nat.le_of_ble_eq_true rfl) ⟨rfl, rfl, by rw [fin (by omega)]⟩
  refine z_iconst dX0_remainingAt_0 ?_
  refine g_istore_n dX0_remainingAt_1 rfl (Nat.le_of_ble_eq_true rfl) ?_
  refine z_iconst dX0_remainingAt_2 ?_
  refine g_istore_n dX0_remainingAt_3 rfl (Nat.le_of_ble_eq_true rfl) ?_
  exact loop 96 0 (Nat.zero_le _) (by omega) (fun j h => absurd h (Nat.not_lt_zero _))
set_option maxHeartbeats 1000000 in
theorem Ca_sum {M : pM} {z ca mo i : Nat} {ex : Nat → Bool} {t : tbl} (h : Ca M ca ex) (hm : Md M mo t) (hi : i < t.length) : CR I_X0_sum yX0_sum [.ref ca, .ref mo, vI (i : Int)] M z (some (vI (smx ex t[i].2 96))) := by
  obtain ⟨u, g, m_q, m_a, hu, hue, hg⟩ := id h
  have m_o := hm.obj
  have hok := hm.ok _ (List.getElem_mem hi)
  refine C.intro (pl := [some (.ref ca), some (.ref mo), some (vI (i : Int))]) pn_X0 rfl (fun h => absurd h (by decide)) rfl (Nat.le_of_ble_eq_true rfl) rfl ?_
  refine g_aload_n dX0_sum_0 rfl ?_
  refine z_getf fl_X0_15 dX0_sum_1 m_q rfl ?_
  refine z_if_eq (tgt := 15) dX0_sum_4 (by decide) (by omega) (fun c4 => ?_) (fun c4 => ?_)
  · refine g_aload_n dX0_sum_15 rfl ?_
    refine g_aload_n dX0_sum_16 rfl ?_
    refine g_iload_n dX0_sum_17 rfl ?_
    refine z_bipush dX0_sum_18 (by decide +kernel) ?_
    refine z_callVR dX0_sum_20 lm_X0_33 lk_X0_sumBelow (Ca_sumBelow (n := 96) h hm hi (by omega)) rfl rfl m_q rfl (mkRoom rfl rfl) (Nat.le_of_ble_eq_true rfl) (Nat.le_of_ble_eq_true rfl) (Nat.le_of_ble_eq_true rfl) ?_
    exact g_ireturn dX0_sum_23 rfl (Nat.le_of_ble_eq_true rfl) (Nat.le_of_ble_eq_true rfl) ⟨rfl, rfl, by first | with_reducible rfl | (have e : smx ex t[i].2 96 = wt t[i].2 := sm_cong (fun s hs => by show (if ex s = true then 0 else t[i].2 s) = t[i].2 s; rw [hue (by omega) s hs]; rfl); rw [e])⟩
  · refine g_aload_n dX0_sum_7 rfl ?_
    refine g_iload_n dX0_sum_8 rfl ?_
    refine z_callVR dX0_sum_9 lm_X0_29 lk_X4_weightOf (Md_weightOf hm hi) rfl rfl m_o rfl (mkRoom rfl rfl) (Nat.le_of_ble_eq_true rfl) (Nat.le_of_ble_eq_true rfl) (Nat.le_of_ble_eq_true rfl) ?_
    refine g_goto (tgt := 23) dX0_sum_12 (by decide) ?_
    exact g_ireturn dX0_sum_23 rfl (Nat.le_of_ble_eq_true rfl) (Nat.le_of_ble_eq_true rfl) ⟨rfl, rfl, by first | with_reducible rfl | (have e : smx ex t[i].2 96 = wt t[i].2 := sm_cong (fun s hs => by show (if ex s = true then 0 else t[i].2 s) = t[i].2 s; rw [hue (by omega) s hs]; rfl); rw [e])⟩
set_option maxHeartbeats 1000000 in
theorem Ca_leave {M : pM} {z ca mo st i : Nat} {ex : Nat → Bool} {t : tbl} {v0 v1 v2 v3 : Int} {r1 r2 r3 : Value} (h : Ca M ca ex) (hm : Md M mo t) (m_s : M st = some (ob 7 [vI v0, vI v1, vI v2, vI v3, .ref mo, r1, r2, r3])) (hv : v1 = 0 ∨ v1 = 1) (hi : i < t.length) (hd : mo + 5 ≤ ca ∨ ca + 2 ≤ mo) (hd2 : st < ca ∨ ca + 2 ≤ st) : CW I_X0_leave yX0_leave [.ref ca, .ref st, vI (i : Int)] M z (fun M' r => r = none ∧ Ca M' ca (if v1 = 1 then fun s => ex s || decide (0 < t[i].2 s) else ex) ∧ Off M M' ca (ca + 2)) := by
  obtain ⟨u, g, m_q, m_a, hu, hue, hg⟩ := id h
  have m_o := hm.obj
  have hok := hm.ok _ (List.getElem_mem hi)
  have fr : Off M M ca (ca + 2) := Off.rf
  refine C.intro (pl := [some (.ref ca), some (.ref st), some (vI (i : Int)), none]) pn_X0 rfl (fun h => absurd h (by decide)) rfl (Nat.le_of_ble_eq_true rfl) rfl ?_
  have loop : v1 = 1 → ∀ (n k : Nat) (M1 : pM) (g1 : Nat → Int), k ≤ 96 → 96 - k = n → Off M M1 ca (ca + 2) → M1 ca = some (ob 0 [.ref (ca + 1), vI u]) → M1 (ca + 1) = some (arZ 96 g1) → (∀ s, s < 96 → g1 s = if ex s || (decide (s < k) && decide (0 < t[i].2 s)) then 1 else 0) → G I_X0_leave 0 0 (fun M' z' r' => z' = z ∧ r' = none ∧ Ca M' ca (if v1 = 1 then fun s => ex s || decide (0 < t[i].2 s) else ex) ∧ Off M M' ca (ca + 2)) 0 0 10 [some (.ref ca), some (.ref st), some (vI (i : Int)), some (vI (k : Int))] [] M1 z := by
    intro hv1 n
    induction n with
    | zero =>
      intro k M g hk hn fr m_q m_a hz
      have e : k = 96 := by omega
      subst e
      refine g_iload_n dX0_leave_10 rfl ?_
      refine g_aload_n dX0_leave_11 rfl ?_
      refine z_getf fl_X0_9 dX0_leave_12 m_q rfl ?_
      refine z_alenZ dX0_leave_15 m_a ?_
      refine z_icmp_ge (tgt := 57) dX0_leave_16 (by decide) (by omega) (by omega) (fun c16 => ?_) (fun c16 => absurd c16 (by omega))
      refine g_aload_n dX0_leave_57 rfl ?_
      refine z_iconst dX0_leave_58 ?_
      refine z_putf fl_X0_15 dX0_leave_59 m_q rfl (Nat.le_of_ble_eq_true rfl) rfl rfl (fun M m_q o => ?_)
      have m_a := (o _ (by omega)).trans m_a
      have fr := fr.one o (by omega)
      exact g_return dX0_leave_62 rfl (Nat.le_of_ble_eq_true rfl) (Nat.le_of_ble_eq_true rfl) ⟨rfl, rfl, ⟨0, g, m_q, m_a, Or.inl rfl, fun q => by omega, fun s hs => by rw [hz s hs, if_pos hv1]; simp [hs]⟩, fr⟩
    | succ n ih =>
      intro k M g hk hn fr m_q m_a hz
      have hk2 : k < 96 := by omega
      have m_s := (fr _ (by omega)).trans m_s
      have hm := hm.off fr (by omega)
      have m_o := hm.obj
      have hzk := hz k hk2
      have hc := hok.cnt hk2
      refine g_iload_n dX0_leave_10 rfl ?_
      refine g_aload_n dX0_leave_11 rfl ?_
      refine z_getf fl_X0_9 dX0_leave_12 m_q rfl ?_
      refine z_alenZ dX0_leave_15 m_a ?_
      refine z_icmp_ge (tgt := 57) dX0_leave_16 (by decide) (by omega) (by omega) (fun c16 => absurd c16 (by omega)) (fun c16 => ?_)
      refine g_aload_n dX0_leave_19 rfl ?_
      refine z_getf fl_X0_9 dX0_leave_20 m_q rfl ?_
      refine g_iload_n dX0_leave_23 rfl ?_
      refine g_aload_n dX0_leave_24 rfl ?_
      refine z_getf fl_X0_9 dX0_leave_25 m_q rfl ?_
      refine g_iload_n dX0_leave_28 rfl ?_
      refine z_baload (j := k) dX0_leave_29 m_a (by omega) (by omega) (by omega) ?_
      refine z_if_ne (tgt := 45) dX0_leave_30 (by decide) (by split at hzk <;> omega) (fun c30 => ?_) (fun c30 => ?_)
      · refine z_iconst dX0_leave_45 ?_
        refine g_goto (tgt := 50) dX0_leave_46 (by decide) ?_
        refine z_bastore (j := k) dX0_leave_50 m_a (by omega) (by omega) (by omega) (by omega) (fun M m_a o => ?_)
        have m_q := (o _ (by omega)).trans m_q
        have m_o := (o _ (by omega)).trans m_o
        have m_s := (o _ (by omega)).trans m_s
        have fr := fr.one o (by omega)
        refine z_iinc dX0_leave_51 rfl (Nat.le_of_ble_eq_true rfl) ?_
        refine g_goto (tgt := 10) dX0_leave_54 (by decide) ?_
        exact ih (k + 1) M _ (by omega) (by omega) fr m_q m_a (fun s hs => by
          by_cases e : s = k
          · subst e
            rw [upZ_s]
            first
            | (have hp : ex s = true := by
                 rcases hx : ex s with _ | _
                 · simp [hx] at hzk; omega
                 · rfl
               simp [hp]; done)
            | (have hp : 0 < t[i].2 s := by omega
               simp [hp]; done)
            | (have hp : ¬ 0 < t[i].2 s := by omega
               have hq : ex s = false := by
                 rcases hx : ex s with _ | _
                 · rfl
                 · simp [hx] at hzk; omega
               simp [hp, hq]; done)
          · rw [upZ_n e, hz s hs]
            have e2 : decide (s < k + 1) = decide (s < k) := by
              by_cases hh : s < k
              · simp [hh]; omega
              · simp [hh]; omega
            rw [e2])
      · refine g_aload_n dX0_leave_33 rfl ?_
        refine z_getf fl_X0_42 dX0_leave_34 m_s rfl ?_
        refine g_iload_n dX0_leave_37 rfl ?_
        refine g_iload_n dX0_leave_38 rfl ?_
        refine z_callVR dX0_leave_39 lm_X0_23 lk_X4_countIn (Md_countIn hm hi hk2) rfl rfl m_o rfl (mkRoom rfl rfl) (Nat.le_of_ble_eq_true rfl) (Nat.le_of_ble_eq_true rfl) (Nat.le_of_ble_eq_true rfl) ?_
        refine z_if_le (tgt := 49) dX0_leave_42 (by decide) (by omega) (fun c42 => ?_) (fun c42 => ?_)
        · refine z_iconst dX0_leave_49 ?_
          refine z_bastore (j := k) dX0_leave_50 m_a (by omega) (by omega) (by omega) (by omega) (fun M m_a o => ?_)
          have m_q := (o _ (by omega)).trans m_q
          have m_o := (o _ (by omega)).trans m_o
          have m_s := (o _ (by omega)).trans m_s
          have fr := fr.one o (by omega)
          refine z_iinc dX0_leave_51 rfl (Nat.le_of_ble_eq_true rfl) ?_
          refine g_goto (tgt := 10) dX0_leave_54 (by decide) ?_
          exact ih (k + 1) M _ (by omega) (by omega) fr m_q m_a (fun s hs => by
            by_cases e : s = k
            · subst e
              rw [upZ_s]
              first
              | (have hp : ex s = true := by
                   rcases hx : ex s with _ | _
                   · simp [hx] at hzk; omega
                   · rfl
                 simp [hp]; done)
              | (have hp : 0 < t[i].2 s := by omega
                 simp [hp]; done)
              | (have hp : ¬ 0 < t[i].2 s := by omega
                 have hq : ex s = false := by
                   rcases hx : ex s with _ | _
                   · rfl
                   · simp [hx] at hzk; omega
                 simp [hp, hq]; done)
            · rw [upZ_n e, hz s hs]
              have e2 : decide (s < k + 1) = decide (s < k) := by
                by_cases hh : s < k
                · simp [hh]; omega
                · simp [hh]; omega
              rw [e2])
        · refine z_iconst dX0_leave_45 ?_
          refine g_goto (tgt := 50) dX0_leave_46 (by decide) ?_
          refine z_bastore (j := k) dX0_leave_50 m_a (by omega) (by omega) (by omega) (by omega) (fun M m_a o => ?_)
          have m_q := (o _ (by omega)).trans m_q
          have m_o := (o _ (by omega)).trans m_o
          have m_s := (o _ (by omega)).trans m_s
          have fr := fr.one o (by omega)
          refine z_iinc dX0_leave_51 rfl (Nat.le_of_ble_eq_true rfl) ?_
          refine g_goto (tgt := 10) dX0_leave_54 (by decide) ?_
          exact ih (k + 1) M _ (by omega) (by omega) fr m_q m_a (fun s hs => by
            by_cases e : s = k
            · subst e
              rw [upZ_s]
              first
              | (have hp : ex s = true := by
                   rcases hx : ex s with _ | _
                   · simp [hx] at hzk; omega
                   · rfl
                 simp [hp]; done)
              | (have hp : 0 < t[i].2 s := by omega
                 simp [hp]; done)
              | (have hp : ¬ 0 < t[i].2 s := by omega
                 have hq : ex s = false := by
                   rcases hx : ex s with _ | _
                   · rfl
                   · simp [hx] at hzk; omega
                 simp [hp, hq]; done)
            · rw [upZ_n e, hz s hs]
              have e2 : decide (s < k + 1) = decide (s < k) := by
                by_cases hh : s < k
                · simp [hh]; omega
                · simp [hh]; omega
              rw [e2])
  refine g_aload_n dX0_leave_0 rfl ?_
  refine z_getf fl_X0_37 dX0_leave_1 m_s rfl ?_
  refine z_if_ne (tgt := 8) dX0_leave_4 (by decide) (by omega) (fun c4 => ?_) (fun c4 => ?_)
  · refine z_iconst dX0_leave_8 ?_
    refine g_istore_n dX0_leave_9 rfl (Nat.le_of_ble_eq_true rfl) ?_
    exact loop (by omega) 96 0 M g (Nat.zero_le _) rfl fr m_q m_a (fun s hs => by rw [hg s hs]; simp)
  · exact g_return dX0_leave_7 rfl (Nat.le_of_ble_eq_true rfl) (Nat.le_of_ble_eq_true rfl) ⟨rfl, rfl, by rw [if_neg (by omega)]; exact h, fr⟩
end
section
/-! keys of contexts, the check number, the logarithm -/
/-- the last j of the first n characters -/
def cx (xs : List Int) (n j : Nat) : List Int := (xs.take n).drop (n - j)
def ck (c : List Int) : Int := c.foldl (fun k s => k * 95 + s) 1
def chk (xs : List Int) : Int := xs.foldl (fun c x => (31 * c + x + 32) % 65521) 1
def okX (xs : List Int) : Prop := ∀ x ∈ xs, 0 ≤ x ∧ x < 95
theorem okX.get {xs : List Int} (h : okX xs) (i : Nat) : 0 ≤ xs.getD i 0 ∧ xs.getD i 0 < 95 := by
  by_cases hi : i < xs.length
  · rw [List.getD_eq_getElem?_getD, List.getElem?_eq_getElem hi]; exact h _ (List.getElem_mem hi)
  · rw [List.getD_eq_getElem?_getD, List.getElem?_eq_none (by omega)]; simp
theorem cx_len {xs : List Int} {n j : Nat} (hn : n ≤ xs.length) (hj : j ≤ n) : (cx xs n j).length = j := by
  unfold cx
  rw [List.length_drop, List.length_take]
  omega
theorem cx_ok {xs : List Int} {n j : Nat} (h : okX xs) : okX (cx xs n j) := fun x hx => h x (List.mem_of_mem_take (List.mem_of_mem_drop hx))
theorem ck_snoc (c : List Int) (x : Int) : ck (c ++ [x]) = ck c * 95 + x := by unfold ck; rw [List.foldl_append]; rfl
theorem chk_snoc (c : List Int) (x : Int) : chk (c ++ [x]) = (31 * chk c + x + 32) % 65521 := by unfold chk; rw [List.foldl_append]; rfl
theorem chk_rng (xs : List Int) : 0 ≤ chk xs ∧ chk xs < 65521 := by
  rcases List.eq_nil_or_concat xs with rfl | ⟨c, x, rfl⟩
  · decide
  · rw [List.concat_eq_append, chk_snoc]; omega
theorem ck_rng {c : List Int} (h : okX c) (hl : c.length ≤ 3) : 0 ≤ ck c ∧ ck c < 2147483648 := by
  match c, h, hl with
  | [], _, _ => decide
  | [a], h, _ => have h1 := h a (by simp); unfold ck; simp only [List.foldl]; omega
  | [a, b], h, _ => have h1 := h a (by simp); have h2 := h b (by simp); unfold ck; simp only [List.foldl]; omega
  | [a, b, d], h, _ => have h1 := h a (by simp); have h2 := h b (by simp); have h3 := h d (by simp); unfold ck; simp only [List.foldl]; omega
theorem take_drop_s {xs : List Int} {n i d : Nat} (hi : i < n) (hn : n ≤ xs.length) (hd : d ≤ i) : (xs.take (i + 1)).drop d = (xs.take i).drop d ++ [xs.getD i 0] := by
  rw [List.take_succ, List.getElem?_eq_getElem (by omega), Option.toList_some, List.drop_append_of_le_length (by rw [List.length_take]; omega), List.getD_eq_getElem?_getD, List.getElem?_eq_getElem (by omega)]
  rfl
set_option maxHeartbeats 1000000 in
theorem x_contextKey {M : pM} {z q N n j : Nat} {xs : List Int} (h : Rw M q N xs) (hn : n ≤ xs.length) (hj : j ≤ n) : CR I_X8_contextKey yX8_contextKey [.ref q, vI (n : Int), vI (j : Int)] M z (some (vI (ck (cx xs n j)))) := by
  obtain ⟨g, m_q, m_a, hlen, hN, hg⟩ := id h
  refine C.intro (pl := [some (.ref q), some (vI (n : Int)), some (vI (j : Int)), none, none]) pn_X8 rfl (fun h => absurd h (by decide)) rfl (Nat.le_of_ble_eq_true rfl) rfl ?_
  have loop : ∀ (k i : Nat), n - j ≤ i → i ≤ n → n - i = k → G I_X8_contextKey 0 0 (fun M' z' r' => M' = M ∧ z' = z ∧ r' = some (vI (ck (cx xs n j)))) 0 0 7 [some (.ref q), some (vI (n : Int)), some (vI (j : Int)), some (vI (ck ((xs.take i).drop (n - j)))), some (vI (i : Int))] [] M z := by
    intro k
    induction k with
    | zero =>
      intro i h0 hi hk
      have e : i = n := by omega
      subst e
      refine g_iload dX8_contextKey_7 rfl ?_
      refine g_iload_n dX8_contextKey_9 rfl ?_
      refine z_icmp_ge (tgt := 31) dX8_contextKey_10 (by decide) (by omega) (by omega) (fun c10 => ?_) (fun c10 => absurd c10 (by omega))
      refine g_iload_n dX8_contextKey_31 rfl ?_
      exact g_ireturn dX8_contextKey_32 rfl (Nat.le_of_ble_eq_true rfl) (Nat.le_of_ble_eq_true rfl) ⟨rfl, rfl, rfl⟩
    | succ k ih =>
      intro i h0 hi hk
      have ih2 := ih (i + 1) (by omega) (by omega) (by omega)
      rw [take_drop_s (show i < n by omega) hn h0, ck_snoc] at ih2
      refine g_iload dX8_contextKey_7 rfl ?_
      refine g_iload_n dX8_contextKey_9 rfl ?_
      refine z_icmp_ge (tgt := 31) dX8_contextKey_10 (by decide) (by omega) (by omega) (fun c10 => absurd c10 (by omega)) (fun c10 => ?_)
      refine g_iload_n dX8_contextKey_13 rfl ?_
      refine z_bipush dX8_contextKey_14 (by decide +kernel) ?_
      refine z_imul dX8_contextKey_16 ?_
      refine g_aload_n dX8_contextKey_17 rfl ?_
      refine g_iload dX8_contextKey_18 rfl ?_
      refine z_callVR dX8_contextKey_20 lm_X8_105 lk_X6_item (Row_item (j := i) h (by omega)) rfl rfl m_q rfl (mkRoom rfl rfl) (Nat.le_of_ble_eq_true rfl) (Nat.le_of_ble_eq_true rfl) (Nat.le_of_ble_eq_true rfl) ?_
      refine z_iadd dX8_contextKey_23 ?_
      refine g_istore_n dX8_contextKey_24 rfl (Nat.le_of_ble_eq_true rfl) ?_
      refine z_iinc dX8_contextKey_25 rfl (Nat.le_of_ble_eq_true rfl) ?_
      refine g_goto (tgt := 7) dX8_contextKey_28 (by decide) ?_
      exact ih2
  refine z_iconst dX8_contextKey_0 ?_
  refine g_istore_n dX8_contextKey_1 rfl (Nat.le_of_ble_eq_true rfl) ?_
  refine g_iload_n dX8_contextKey_2 rfl ?_
  refine g_iload_n dX8_contextKey_3 rfl ?_
  refine z_isub dX8_contextKey_4 ?_
  refine g_istore dX8_contextKey_5 (Nat.le_of_ble_eq_true rfl) ?_
  have e0 : (vI ((n : Int) - (j : Int))) = vI ((n - j : Nat) : Int) := by rw [show ((n : Int) - (j : Int)) = ((n - j : Nat) : Int) by omega]
  have e1 : ck ((xs.take (n - j)).drop (n - j)) = 1 := by rw [List.drop_eq_nil_of_le (by rw [List.length_take]; omega)]; rfl
  have hl := loop j (n - j) (Nat.le_refl _) (by omega) (by omega)
  rw [e1, ← e0] at hl
  exact hl
set_option maxHeartbeats 1000000 in
theorem x_checkNumber {M : pM} {z q N : Nat} {xs : List Int} (h : Rw M q N xs) (hx : okX xs) : CR I_X8_checkNumber yX8_checkNumber [.ref q] M z (some (vI (chk xs))) := by
  obtain ⟨g, m_q, m_a, hlen, hN, hg⟩ := id h
  refine C.intro (pl := [some (.ref q), none, none]) pn_X8 rfl (fun h => absurd h (by decide)) rfl (Nat.le_of_ble_eq_true rfl) rfl ?_
  have loop : ∀ (k i : Nat), i ≤ xs.length → xs.length - i = k → G I_X8_checkNumber 0 0 (fun M' z' r' => M' = M ∧ z' = z ∧ r' = some (vI (chk xs))) 0 0 4 [some (.ref q), some (vI (chk (xs.take i))), some (vI (i : Int))] [] M z := by
    intro k
    induction k with
    | zero =>
      intro i hi hk
      have e : i = xs.length := by omega
      subst e
      refine g_iload_n dX8_checkNumber_4 rfl ?_
      refine g_aload_n dX8_checkNumber_5 rfl ?_
      refine z_getf fl_X8_102 dX8_checkNumber_6 m_q rfl ?_
      refine z_icmp_ge (tgt := 36) dX8_checkNumber_9 (by decide) (by omega) (by omega) (fun c9 => ?_) (fun c9 => absurd c9 (by omega))
      refine g_iload_n dX8_checkNumber_36 rfl ?_
      exact g_ireturn dX8_checkNumber_37 rfl (Nat.le_of_ble_eq_true rfl) (Nat.le_of_ble_eq_true rfl) ⟨rfl, rfl, by rw [List.take_length]⟩
    | succ k ih =>
      intro i hi hk
      have ih2 := ih (i + 1) (by omega) (by omega)
      have e := take_drop_s (xs := xs) (n := xs.length) (i := i) (d := 0) (by omega) (Nat.le_refl _) (Nat.zero_le _)
      rw [List.drop_zero, List.drop_zero] at e
      rw [e, chk_snoc] at ih2
      have hc := chk_rng (xs.take i)
      have hv := hx.get i
      refine g_iload_n dX8_checkNumber_4 rfl ?_
      refine g_aload_n dX8_checkNumber_5 rfl ?_
      refine z_getf fl_X8_102 dX8_checkNumber_6 m_q rfl ?_
      refine z_icmp_ge (tgt := 36) dX8_checkNumber_9 (by decide) (by omega) (by omega) (fun c9 => absurd c9 (by omega)) (fun c9 => ?_)
      refine z_bipush dX8_checkNumber_12 (by decide +kernel) ?_
      refine g_iload_n dX8_checkNumber_14 rfl ?_
      refine z_imul dX8_checkNumber_15 ?_
      refine g_aload_n dX8_checkNumber_16 rfl ?_
      refine g_iload_n dX8_checkNumber_17 rfl ?_
      refine z_callVR dX8_checkNumber_18 lm_X8_105 lk_X6_item (Row_item (j := i) h (by omega)) rfl rfl m_q rfl (mkRoom rfl rfl) (Nat.le_of_ble_eq_true rfl) (Nat.le_of_ble_eq_true rfl) (Nat.le_of_ble_eq_true rfl) ?_
      refine z_iadd dX8_checkNumber_21 ?_
      refine z_bipush dX8_checkNumber_22 (by decide +kernel) ?_
      refine z_iadd dX8_checkNumber_24 ?_
      refine z_ldcw (65521) dX8_checkNumber_25 kc_X8_315 rfl ?_
      refine z_irem dX8_checkNumber_28 (by omega) (by omega) ?_
      refine g_istore_n dX8_checkNumber_29 rfl (Nat.le_of_ble_eq_true rfl) ?_
      refine z_iinc dX8_checkNumber_30 rfl (Nat.le_of_ble_eq_true rfl) ?_
      refine g_goto (tgt := 4) dX8_checkNumber_33 (by decide) ?_
      exact ih2
  refine z_iconst dX8_checkNumber_0 ?_
  refine g_istore_n dX8_checkNumber_1 rfl (Nat.le_of_ble_eq_true rfl) ?_
  refine z_iconst dX8_checkNumber_2 ?_
  refine g_istore_n dX8_checkNumber_3 rfl (Nat.le_of_ble_eq_true rfl) ?_
  exact loop xs.length 0 (Nat.zero_le _) (by omega)
def lgI : Nat → Int → Int → Int
  | 0, _, s => s
  | n + 1, x, s => if 2147483648 ≤ x * x / 1073741824 then lgI n (x * x / 1073741824 / 2) (s + 2 ^ n) else lgI n (x * x / 1073741824) s
def lgz (v : Int) : Int := lgI 16 (v * 2 ^ (30 - Nat.log2 v.toNat)) (65536 * (Nat.log2 v.toNat : Int))
def lgf (v : Int) : Int := if v < 1 then 0 else lgz v
def lgc (size total : Int) : Int := lgf total - lgf size
theorem lgI_rng : ∀ (n : Nat) (x s : Int), s ≤ lgI n x s ∧ lgI n x s < s + 2 ^ n
  | 0, x, s => by simp [lgI]; omega
  | n + 1, x, s => by
    have hp : (0 : Int) < 2 ^ n := Int.pow_pos (by decide)
    rw [lgI, Int.pow_succ]
    split
    · have := lgI_rng n (x * x / 1073741824 / 2) (s + 2 ^ n); omega
    · have := lgI_rng n (x * x / 1073741824) s; omega
theorem log2_b {v : Nat} (h : 1 ≤ v) : 2 ^ Nat.log2 v ≤ v ∧ v < 2 ^ (Nat.log2 v + 1) := ⟨Nat.log2_self_le (by omega), Nat.lt_log2_self⟩
theorem log2_le {v : Nat} (h : v < 2147483648) : Nat.log2 v ≤ 30 := by
  by_cases h0 : v = 0
  · subst h0; simp
  · have := (Nat.log2_lt h0 (k := 31)).mpr (by omega)
    omega
theorem lgf_rng {v : Int} (h : v < 2147483648) : 0 ≤ lgf v ∧ lgf v < 2031616 := by
  unfold lgf
  split
  · omega
  · have h1 := lgI_rng 16 (v * 2 ^ (30 - Nat.log2 v.toNat)) (65536 * (Nat.log2 v.toNat : Int))
    have h2 := log2_le (v := v.toNat) (by omega)
    unfold lgz
    omega
theorem lgx_step {x : Int} (h : 1073741824 ≤ x ∧ x < 2147483648) : 1073741824 ≤ x * x / 1073741824 ∧ x * x / 1073741824 < 4294967296 ∧ 0 ≤ x * x ∧ x * x < 4611686018427387904 := by
  have h1 : 1073741824 * 1073741824 ≤ x * x := Int.mul_le_mul h.1 h.1 (by decide) (by omega)
  have h2 : x * x ≤ 2147483647 * 2147483647 := Int.mul_le_mul (by omega) (by omega) (by omega) (by decide)
  omega
set_option maxHeartbeats 1000000 in
theorem x_logarithm {M : pM} {z : Nat} {v : Int} (hv : -2147483648 ≤ v ∧ v < 2147483648) : CR I_X8_logarithm yX8_logarithm [vI v] M z (some (vI (lgf v))) := by
  refine C.intro (pl := [some (vI v), none, none, none, none, none]) pn_X8 rfl (fun h => absurd h (by decide)) rfl (Nat.le_of_ble_eq_true rfl) rfl ?_
  by_cases h1 : v < 1
  · refine g_iload_n dX8_logarithm_0 rfl ?_
    refine z_iconst dX8_logarithm_1 ?_
    refine z_icmp_ge (tgt := 7) dX8_logarithm_2 (by decide) (by omega) (by omega) (fun c2 => absurd c2 (by omega)) (fun c2 => ?_)
    refine z_iconst dX8_logarithm_5 ?_
    exact g_ireturn dX8_logarithm_6 rfl (Nat.le_of_ble_eq_true rfl) (Nat.le_of_ble_eq_true rfl) ⟨rfl, rfl, by unfold lgf; rw [if_pos h1]⟩
  · obtain ⟨n, rfl⟩ : ∃ n : Nat, v = n := ⟨v.toNat, by omega⟩
    have e : lgf (n : Int) = lgz n := by unfold lgf; rw [if_neg h1]
    rw [e]
    have hb := log2_b (v := n) (by omega)
    have hl := log2_le (v := n) (by omega)
    have loop2 : ∀ (i : Nat) (x s : Int) , i ≤ 16 → 1073741824 ≤ x ∧ x < 2147483648 → ∀ K : Int, G I_X8_logarithm 0 0 (fun M' z' r' => M' = M ∧ z' = z ∧ r' = some (vI (lgI i x s))) 0 0 47 [some (vI (n : Int)), some (vI K), some (vL x), none, some (vI s), some (vI ((i : Int) - 1))] [] M z := by
      intro i
      induction i with
      | zero =>
        intro x s hi hx K
        refine g_iload dX8_logarithm_47 rfl ?_
        refine z_if_lt (tgt := 86) dX8_logarithm_49 (by decide) (by omega) (fun c49 => ?_) (fun c49 => absurd c49 (by omega))
        refine g_iload dX8_logarithm_86 rfl ?_
        exact g_ireturn dX8_logarithm_88 rfl (Nat.le_of_ble_eq_true rfl) (Nat.le_of_ble_eq_true rfl) ⟨rfl, rfl, rfl⟩
      | succ i ih =>
        intro x s hi hx K
        have hs := lgx_step hx
        have e30 : (2 : Int) ^ 30 = 1073741824 := by decide
        rw [lgI]
        have e0 : (((i + 1 : Nat) : Int) - 1) = (i : Int) := by omega
        rw [e0]
        refine g_iload dX8_logarithm_47 rfl ?_
        refine z_if_lt (tgt := 86) dX8_logarithm_49 (by decide) (by omega) (fun c49 => absurd c49 (by omega)) (fun c49 => ?_)
        refine g_lload_n dX8_logarithm_52 rfl ?_
        refine g_lload_n dX8_logarithm_53 rfl ?_
        refine z_lmul dX8_logarithm_54 ?_
        refine z_bipush dX8_logarithm_55 (by decide +kernel) ?_
        refine g_lshr dX8_logarithm_57 ?_
        refine G.top (v' := vL (x * x / 1073741824)) (by rw [show iZ 30 = iZ ((30 : Nat) : Int) from rfl, lZ_shr (s := 30) (by omega) (by omega), e30]) ?_
        refine g_lstore_n dX8_logarithm_58 rfl (Nat.le_of_ble_eq_true rfl) ?_
        refine g_lload_n dX8_logarithm_59 rfl ?_
        refine z_ldc2 (2147483648) dX8_logarithm_60 kc_X8_319 rfl ?_
        refine z_lcmp dX8_logarithm_63 (by omega) (by omega) (fun c63 => ?_) (fun c63 => ?_) (fun c63 => ?_)
        · refine z_if_lt (tgt := 80) dX8_logarithm_64 (by decide) (by decide) (fun q => absurd q (by decide)) (fun _ => ?_)
          refine g_lload_n dX8_logarithm_67 rfl ?_
          refine z_iconst dX8_logarithm_68 ?_
          refine g_lshr dX8_logarithm_69 ?_
          refine G.top (v' := vL (x * x / 1073741824 / 2)) (by rw [show iZ 1 = iZ ((1 : Nat) : Int) from rfl, lZ_shr (s := 1) (by omega) (by omega), Int.pow_one]) ?_
          refine g_lstore_n dX8_logarithm_70 rfl (Nat.le_of_ble_eq_true rfl) ?_
          refine g_iload dX8_logarithm_71 rfl ?_
          refine z_iconst dX8_logarithm_73 ?_
          refine g_iload dX8_logarithm_74 rfl ?_
          refine g_ishl dX8_logarithm_76 ?_
          refine G.top (v' := vI (2 ^ i)) (by rw [iZ_shl 1 (by omega), Int.one_mul]) ?_
          refine z_iadd dX8_logarithm_77 ?_
          refine g_istore dX8_logarithm_78 (Nat.le_of_ble_eq_true rfl) ?_
          refine z_iinc dX8_logarithm_80 rfl (Nat.le_of_ble_eq_true rfl) ?_
          refine g_goto (tgt := 47) dX8_logarithm_83 (by decide) ?_
          first
          | (rw [if_pos (by omega)]; exact ih (x * x / 1073741824 / 2) (s + 2 ^ i) (by omega) (by omega) K)
          | (rw [if_neg (by omega)]; exact ih (x * x / 1073741824) s (by omega) (by omega) K)
        · refine z_if_lt (tgt := 80) dX8_logarithm_64 (by decide) (by decide) (fun q => absurd q (by decide)) (fun _ => ?_)
          refine g_lload_n dX8_logarithm_67 rfl ?_
          refine z_iconst dX8_logarithm_68 ?_
          refine g_lshr dX8_logarithm_69 ?_
          refine G.top (v' := vL (x * x / 1073741824 / 2)) (by rw [show iZ 1 = iZ ((1 : Nat) : Int) from rfl, lZ_shr (s := 1) (by omega) (by omega), Int.pow_one]) ?_
          refine g_lstore_n dX8_logarithm_70 rfl (Nat.le_of_ble_eq_true rfl) ?_
          refine g_iload dX8_logarithm_71 rfl ?_
          refine z_iconst dX8_logarithm_73 ?_
          refine g_iload dX8_logarithm_74 rfl ?_
          refine g_ishl dX8_logarithm_76 ?_
          refine G.top (v' := vI (2 ^ i)) (by rw [iZ_shl 1 (by omega), Int.one_mul]) ?_
          refine z_iadd dX8_logarithm_77 ?_
          refine g_istore dX8_logarithm_78 (Nat.le_of_ble_eq_true rfl) ?_
          refine z_iinc dX8_logarithm_80 rfl (Nat.le_of_ble_eq_true rfl) ?_
          refine g_goto (tgt := 47) dX8_logarithm_83 (by decide) ?_
          first
          | (rw [if_pos (by omega)]; exact ih (x * x / 1073741824 / 2) (s + 2 ^ i) (by omega) (by omega) K)
          | (rw [if_neg (by omega)]; exact ih (x * x / 1073741824) s (by omega) (by omega) K)
        · refine z_if_lt (tgt := 80) dX8_logarithm_64 (by decide) (by decide) (fun _ => ?_) (fun q => absurd q (by decide))
          refine z_iinc dX8_logarithm_80 rfl (Nat.le_of_ble_eq_true rfl) ?_
          refine g_goto (tgt := 47) dX8_logarithm_83 (by decide) ?_
          first
          | (rw [if_pos (by omega)]; exact ih (x * x / 1073741824 / 2) (s + 2 ^ i) (by omega) (by omega) K)
          | (rw [if_neg (by omega)]; exact ih (x * x / 1073741824) s (by omega) (by omega) K)
    have loop1 : ∀ (m k : Nat), k ≤ Nat.log2 n → Nat.log2 n - k = m → G I_X8_logarithm 0 0 (fun M' z' r' => M' = M ∧ z' = z ∧ r' = some (vI (lgz n))) 0 0 9 [some (vI (n : Int)), some (vI (k : Int)), none, none, none, none] [] M z := by
      have tail : G I_X8_logarithm 0 0 (fun M' z' r' => M' = M ∧ z' = z ∧ r' = some (vI (lgz n))) 0 0 29 [some (vI (n : Int)), some (vI (Nat.log2 n : Int)), none, none, none, none] [] M z := by
        have hp : 2 ^ Nat.log2 n * 2 ^ (30 - Nat.log2 n) = 1073741824 := by rw [← Nat.pow_add, show Nat.log2 n + (30 - Nat.log2 n) = 30 by omega]
        have hp2 : 2 ^ (Nat.log2 n + 1) * 2 ^ (30 - Nat.log2 n) = 2147483648 := by rw [← Nat.pow_add, show Nat.log2 n + 1 + (30 - Nat.log2 n) = 31 by omega]
        have hx1 : 1073741824 ≤ n * 2 ^ (30 - Nat.log2 n) := by rw [← hp]; exact Nat.mul_le_mul_right _ hb.1
        have hx2 : n * 2 ^ (30 - Nat.log2 n) < 2147483648 := by rw [← hp2]; exact Nat.mul_lt_mul_of_pos_right hb.2 (Nat.pow_pos (by decide))
        have ex : ((n : Int) * 2 ^ (30 - Nat.log2 n)) = ((n * 2 ^ (30 - Nat.log2 n) : Nat) : Int) := by push_cast; rfl
        have e2 : ((30 : Int) - (Nat.log2 n : Int)) = ((30 - Nat.log2 n : Nat) : Int) := by omega
        refine g_iload_n dX8_logarithm_29 rfl ?_
        refine z_i2l dX8_logarithm_30 (by omega) ?_
        refine z_bipush dX8_logarithm_31 (by decide +kernel) ?_
        refine g_iload_n dX8_logarithm_33 rfl ?_
        refine z_isub dX8_logarithm_34 ?_
        refine g_lshl dX8_logarithm_35 ?_
        refine G.top (v' := vL ((n : Int) * 2 ^ (30 - Nat.log2 n))) (by rw [e2, lZ_shl (n : Int) (by omega)]) ?_
        refine g_lstore_n dX8_logarithm_36 rfl (Nat.le_of_ble_eq_true rfl) ?_
        refine z_ldc (65536) dX8_logarithm_37 kc_X8_245 rfl ?_
        refine g_iload_n dX8_logarithm_39 rfl ?_
        refine z_imul dX8_logarithm_40 ?_
        refine g_istore dX8_logarithm_41 (Nat.le_of_ble_eq_true rfl) ?_
        refine z_bipush dX8_logarithm_43 (by decide +kernel) ?_
        refine g_istore dX8_logarithm_45 (Nat.le_of_ble_eq_true rfl) ?_
        exact loop2 16 _ _ (by omega) (by rw [Int.toNat_natCast, ex]; omega) _
      intro m
      induction m with
      | zero =>
        intro k hk hm
        have ek : k = Nat.log2 n := by omega
        subst ek
        have hd : (n : Int) / 2 ^ (Nat.log2 n + 1) = 0 := Int.ediv_eq_zero_of_lt (by omega) (by have := hb.2; exact_mod_cast this)
        refine g_iload_n dX8_logarithm_9 rfl ?_
        refine z_bipush dX8_logarithm_10 (by decide +kernel) ?_
        refine z_icmp_ge (tgt := 29) dX8_logarithm_12 (by decide) (by omega) (by omega) (fun c12 => ?_) (fun c12 => ?_)
        · exact tail
        · refine g_iload_n dX8_logarithm_15 rfl ?_
          refine g_iload_n dX8_logarithm_16 rfl ?_
          refine z_iconst dX8_logarithm_17 ?_
          refine z_iadd dX8_logarithm_18 ?_
          refine g_ishr dX8_logarithm_19 ?_
          refine G.top (v' := vI (0)) (by rw [show ((Nat.log2 n : Int) + 1) = ((Nat.log2 n + 1 : Nat) : Int) by omega, iZ_shr (by omega) (by omega), hd]) ?_
          refine z_if_le (tgt := 29) dX8_logarithm_20 (by decide) (by omega) (fun c20 => ?_) (fun c20 => absurd c20 (by omega))
          exact tail
      | succ m ih =>
        intro k hk hm
        have hd : 0 < (n : Int) / 2 ^ (k + 1) := by
          have h2 : 2 ^ (k + 1) ≤ n := Nat.le_trans (Nat.pow_le_pow_right (by decide) (by omega)) hb.1
          have h3 : 0 < n / 2 ^ (k + 1) := Nat.div_pos h2 (Nat.pow_pos (by decide))
          have h4 : ((n : Int) / 2 ^ (k + 1)) = ((n / 2 ^ (k + 1) : Nat) : Int) := by push_cast; rfl
          omega
        have hd2 : (n : Int) / 2 ^ (k + 1) ≤ n := Int.ediv_le_self _ (by omega)
        refine g_iload_n dX8_logarithm_9 rfl ?_
        refine z_bipush dX8_logarithm_10 (by decide +kernel) ?_
        refine z_icmp_ge (tgt := 29) dX8_logarithm_12 (by decide) (by omega) (by omega) (fun c12 => absurd c12 (by omega)) (fun c12 => ?_)
        refine g_iload_n dX8_logarithm_15 rfl ?_
        refine g_iload_n dX8_logarithm_16 rfl ?_
        refine z_iconst dX8_logarithm_17 ?_
        refine z_iadd dX8_logarithm_18 ?_
        refine g_ishr dX8_logarithm_19 ?_
        refine G.top (v' := vI ((n : Int) / 2 ^ (k + 1))) (by rw [show ((k : Int) + 1) = ((k + 1 : Nat) : Int) by omega, iZ_shr (by omega) (by omega)]) ?_
        refine z_if_le (tgt := 29) dX8_logarithm_20 (by decide) (by omega) (fun c20 => absurd c20 (by omega)) (fun c20 => ?_)
        refine z_iinc dX8_logarithm_23 rfl (Nat.le_of_ble_eq_true rfl) ?_
        refine g_goto (tgt := 9) dX8_logarithm_26 (by decide) ?_
        exact ih (k + 1) (by omega) (by omega)
    refine g_iload_n dX8_logarithm_0 rfl ?_
    refine z_iconst dX8_logarithm_1 ?_
    refine z_icmp_ge (tgt := 7) dX8_logarithm_2 (by decide) (by omega) (by omega) (fun c2 => ?_) (fun c2 => absurd c2 (by omega))
    refine z_iconst dX8_logarithm_7 ?_
    refine g_istore_n dX8_logarithm_8 rfl (Nat.le_of_ble_eq_true rfl) ?_
    exact loop1 (Nat.log2 n) 0 (Nat.zero_le _) (by omega)
set_option maxHeartbeats 1000000 in
theorem x_intervalCost {M : pM} {z : Nat} {a t : Int} (ha : -2147483648 ≤ a ∧ a < 2147483648) (ht : -2147483648 ≤ t ∧ t < 2147483648) : CR I_X8_intervalCost yX8_intervalCost [vI a, vI t] M z (some (vI (lgc a t))) := by
  refine C.intro (pl := [some (vI a), some (vI t)]) pn_X8 rfl (fun h => absurd h (by decide)) rfl (Nat.le_of_ble_eq_true rfl) rfl ?_
  refine g_iload_n dX8_intervalCost_0 rfl ?_
  refine z_callSR dX8_intervalCost_1 lm_X8_316 lk_X8_logarithm (x_logarithm ht) rfl rfl (mkRoom rfl rfl) (Nat.le_of_ble_eq_true rfl) (Nat.le_of_ble_eq_true rfl) (Nat.le_of_ble_eq_true rfl) ?_
  refine g_iload_n dX8_intervalCost_4 rfl ?_
  refine z_callSR dX8_intervalCost_5 lm_X8_316 lk_X8_logarithm (x_logarithm ha) rfl rfl (mkRoom rfl rfl) (Nat.le_of_ble_eq_true rfl) (Nat.le_of_ble_eq_true rfl) (Nat.le_of_ble_eq_true rfl) ?_
  refine z_isub dX8_intervalCost_8 ?_
  exact g_ireturn dX8_intervalCost_9 rfl (Nat.le_of_ble_eq_true rfl) (Nat.le_of_ble_eq_true rfl) ⟨rfl, rfl, rfl⟩
end
section
/-! the classes Route, Ledger, State -/
abbrev iv : Type := Int × Int × Int
def cst (L : List iv) : Int := (L.map (fun x => lgc (x.2.1 - x.1) x.2.2)).sum
theorem cst_snoc (L : List iv) (x : iv) : cst (L ++ [x]) = cst L + lgc (x.2.1 - x.1) x.2.2 := by unfold cst; rw [List.map_append, List.sum_append]; simp
def Rt (M : pM) (rt : Nat) (L : List iv) (ord : Int) : Prop := M rt = some (ob 5 [.ref (rt + 1), .ref (rt + 3), .ref (rt + 5), vI ord]) ∧ Rw M (rt + 1) 5 (L.map (fun x => x.1)) ∧ Rw M (rt + 3) 5 (L.map (fun x => x.2.1)) ∧ Rw M (rt + 5) 5 (L.map (fun x => x.2.2))
theorem Rt.off {M M' : pM} {rt lo hi : Nat} {L : List iv} {ord : Int} (h : Rt M rt L ord) (ho : Off M M' lo hi) (hd : rt + 7 ≤ lo ∨ hi ≤ rt) : Rt M' rt L ord := ⟨(ho _ (by omega)).trans h.1, h.2.1.off ho (by omega), h.2.2.1.off ho (by omega), h.2.2.2.off ho (by omega)⟩
theorem Rt.len {M : pM} {rt : Nat} {L : List iv} {ord : Int} (h : Rt M rt L ord) : L.length ≤ 5 := by have := h.2.1.len.1; simpa using this
theorem getD_map {α : Type} (f : α → Int) (L : List α) {k : Nat} (h : k < L.length) : (L.map f).getD k 0 = f L[k] := by
  rw [List.getD_eq_getElem?_getD, List.getElem?_map, List.getElem?_eq_getElem h]; rfl
set_option maxHeartbeats 1000000 in
theorem Rt_clear {M : pM} {z rt : Nat} {L : List iv} {ord : Int} (h : Rt M rt L ord) : CW I_X5_clear yX5_clear [.ref rt] M z (fun M' r => r = none ∧ Rt M' rt [] (-1) ∧ Off M M' rt (rt + 7)) := by
  obtain ⟨m_r, h1, h2, h3⟩ := id h
  have fr : Off M M rt (rt + 7) := Off.rf
  refine C.intro (pl := [some (.ref rt)]) pn_X5 rfl (fun h => absurd h (by decide)) rfl (Nat.le_of_ble_eq_true rfl) rfl ?_
  refine g_aload_n dX5_clear_0 rfl ?_
  refine z_getf fl_X5_14 dX5_clear_1 m_r rfl ?_
  refine z_callVV dX5_clear_4 lm_X5_26 lk_X6_clear (Row_clear h1) rfl rfl (Rw.obj h1) rfl (mkRoom rfl rfl) (Nat.le_of_ble_eq_true rfl) (Nat.le_of_ble_eq_true rfl) (Nat.le_of_ble_eq_true rfl) (fun M r hp => ?_)
  obtain ⟨rfl, h1, o1⟩ := hp
  have m_r := (o1 _ (by omega)).trans m_r
  have h2 := h2.off o1 (by omega)
  have h3 := h3.off o1 (by omega)
  have fr := fr.tr (o1.wd (by omega) (by omega))
  refine g_aload_n dX5_clear_7 rfl ?_
  refine z_getf fl_X5_20 dX5_clear_8 m_r rfl ?_
  refine z_callVV dX5_clear_11 lm_X5_26 lk_X6_clear (Row_clear h2) rfl rfl (Rw.obj h2) rfl (mkRoom rfl rfl) (Nat.le_of_ble_eq_true rfl) (Nat.le_of_ble_eq_true rfl) (Nat.le_of_ble_eq_true rfl) (fun M r hp => ?_)
  obtain ⟨rfl, h2, o1⟩ := hp
  have m_r := (o1 _ (by omega)).trans m_r
  have h1 := h1.off o1 (by omega)
  have h3 := h3.off o1 (by omega)
  have fr := fr.tr (o1.wd (by omega) (by omega))
  refine g_aload_n dX5_clear_14 rfl ?_
  refine z_getf fl_X5_23 dX5_clear_15 m_r rfl ?_
  refine z_callVV dX5_clear_18 lm_X5_26 lk_X6_clear (Row_clear h3) rfl rfl (Rw.obj h3) rfl (mkRoom rfl rfl) (Nat.le_of_ble_eq_true rfl) (Nat.le_of_ble_eq_true rfl) (Nat.le_of_ble_eq_true rfl) (fun M r hp => ?_)
  obtain ⟨rfl, h3, o1⟩ := hp
  have m_r := (o1 _ (by omega)).trans m_r
  have h1 := h1.off o1 (by omega)
  have h2 := h2.off o1 (by omega)
  have fr := fr.tr (o1.wd (by omega) (by omega))
  refine g_aload_n dX5_clear_21 rfl ?_
  refine z_iconst dX5_clear_22 ?_
  refine z_putf fl_X5_29 dX5_clear_23 m_r rfl (Nat.le_of_ble_eq_true rfl) rfl rfl (fun M m_r o => ?_)
  have fr := fr.one o (by omega)
  have o1 : Off _ M rt (rt + 1) := fun x hx => o x (by omega)
  have h1 := h1.off o1 (by omega)
  have h2 := h2.off o1 (by omega)
  have h3 := h3.off o1 (by omega)
  exact g_return dX5_clear_26 rfl (Nat.le_of_ble_eq_true rfl) (Nat.le_of_ble_eq_true rfl) ⟨rfl, rfl, ⟨m_r, h1, h2, h3⟩, fr⟩
set_option maxHeartbeats 1000000 in
theorem Rt_add {M : pM} {z rt : Nat} {L : List iv} {ord a b t : Int} (h : Rt M rt L ord) (hl : L.length < 5) : CW I_X5_add yX5_add [.ref rt, vI a, vI b, vI t] M z (fun M' r => r = none ∧ Rt M' rt (L ++ [(a, b, t)]) ord ∧ Off M M' rt (rt + 7)) := by
  obtain ⟨m_r, h1, h2, h3⟩ := id h
  have fr : Off M M rt (rt + 7) := Off.rf
  refine C.intro (pl := [some (.ref rt), some (vI a), some (vI b), some (vI t)]) pn_X5 rfl (fun h => absurd h (by decide)) rfl (Nat.le_of_ble_eq_true rfl) rfl ?_
  refine g_aload_n dX5_add_0 rfl ?_
  refine z_getf fl_X5_14 dX5_add_1 m_r rfl ?_
  refine g_iload_n dX5_add_4 rfl ?_
  refine z_callVV dX5_add_5 lm_X5_33 lk_X6_push (Row_push h1) rfl rfl (Rw.obj h1) rfl (mkRoom rfl rfl) (Nat.le_of_ble_eq_true rfl) (Nat.le_of_ble_eq_true rfl) (Nat.le_of_ble_eq_true rfl) (fun M r hp => ?_)
  obtain ⟨rfl, h1, o1⟩ := hp
  have m_r := (o1 _ (by omega)).trans m_r
  have h2 := h2.off o1 (by omega)
  have h3 := h3.off o1 (by omega)
  have fr := fr.tr (o1.wd (by omega) (by omega))
  rw [if_pos (by simpa using hl)] at h1
  refine g_aload_n dX5_add_8 rfl ?_
  refine z_getf fl_X5_20 dX5_add_9 m_r rfl ?_
  refine g_iload_n dX5_add_12 rfl ?_
  refine z_callVV dX5_add_13 lm_X5_33 lk_X6_push (Row_push h2) rfl rfl (Rw.obj h2) rfl (mkRoom rfl rfl) (Nat.le_of_ble_eq_true rfl) (Nat.le_of_ble_eq_true rfl) (Nat.le_of_ble_eq_true rfl) (fun M r hp => ?_)
  obtain ⟨rfl, h2, o1⟩ := hp
  have m_r := (o1 _ (by omega)).trans m_r
  have h1 := h1.off o1 (by omega)
  have h3 := h3.off o1 (by omega)
  have fr := fr.tr (o1.wd (by omega) (by omega))
  rw [if_pos (by simpa using hl)] at h2
  refine g_aload_n dX5_add_16 rfl ?_
  refine z_getf fl_X5_23 dX5_add_17 m_r rfl ?_
  refine g_iload_n dX5_add_20 rfl ?_
  refine z_callVV dX5_add_21 lm_X5_33 lk_X6_push (Row_push h3) rfl rfl (Rw.obj h3) rfl (mkRoom rfl rfl) (Nat.le_of_ble_eq_true rfl) (Nat.le_of_ble_eq_true rfl) (Nat.le_of_ble_eq_true rfl) (fun M r hp => ?_)
  obtain ⟨rfl, h3, o1⟩ := hp
  have m_r := (o1 _ (by omega)).trans m_r
  have h1 := h1.off o1 (by omega)
  have h2 := h2.off o1 (by omega)
  have fr := fr.tr (o1.wd (by omega) (by omega))
  rw [if_pos (by simpa using hl)] at h3
  exact g_return dX5_add_24 rfl (Nat.le_of_ble_eq_true rfl) (Nat.le_of_ble_eq_true rfl) ⟨rfl, rfl, ⟨m_r, by rw [List.map_append]; exact h1, by rw [List.map_append]; exact h2, by rw [List.map_append]; exact h3⟩, fr⟩
set_option maxHeartbeats 1000000 in
theorem Rt_size {M : pM} {z rt : Nat} {L : List iv} {ord : Int} (h : Rt M rt L ord) : CR I_X5_size yX5_size [.ref rt] M z (some (vI (L.length : Int))) := by
  obtain ⟨m_r, h1, h2, h3⟩ := id h
  have fr : Off M M rt (rt + 7) := Off.rf
  have m_v := h3.obj
  refine C.intro (pl := [some (.ref rt)]) pn_X5 rfl (fun h => absurd h (by decide)) rfl (Nat.le_of_ble_eq_true rfl) rfl ?_
  refine g_aload_n dX5_size_0 rfl ?_
  refine z_getf fl_X5_23 dX5_size_1 m_r rfl ?_
  refine z_getf fl_X5_36 dX5_size_4 m_v rfl ?_
  exact g_ireturn dX5_size_7 rfl (Nat.le_of_ble_eq_true rfl) (Nat.le_of_ble_eq_true rfl) ⟨rfl, rfl, by rw [List.length_map]⟩
set_option maxHeartbeats 1000000 in
theorem Rt_cost {M : pM} {z rt : Nat} {L : List iv} {ord : Int} (h : Rt M rt L ord) (hr : ∀ x ∈ L, (-2147483648 ≤ x.2.1 - x.1 ∧ x.2.1 - x.1 < 2147483648) ∧ (-2147483648 ≤ x.2.2 ∧ x.2.2 < 2147483648)) : CR I_X5_sumOfCosts yX5_sumOfCosts [.ref rt] M z (some (vI (cst L))) := by
  obtain ⟨m_r, h1, h2, h3⟩ := id h
  have fr : Off M M rt (rt + 7) := Off.rf
  have m_v := h3.obj
  rw [List.length_map] at m_v
  have hl := h.len
  refine C.intro (pl := [some (.ref rt), none, none]) pn_X5 rfl (fun h => absurd h (by decide)) rfl (Nat.le_of_ble_eq_true rfl) rfl ?_
  have loop : ∀ (n k : Nat), k ≤ L.length → L.length - k = n → G I_X5_sumOfCosts 0 0 (fun M' z' r' => M' = M ∧ z' = z ∧ r' = some (vI (cst L))) 0 0 4 [some (.ref rt), some (vI (cst (L.take k))), some (vI (k : Int))] [] M z := by
    intro n
    induction n with
    | zero =>
      intro k hk hn
      have e : k = L.length := by omega
      subst e
      refine g_iload_n dX5_sumOfCosts_4 rfl ?_
      refine g_aload_n dX5_sumOfCosts_5 rfl ?_
      refine z_getf fl_X5_23 dX5_sumOfCosts_6 m_r rfl ?_
      refine z_getf fl_X5_36 dX5_sumOfCosts_9 m_v rfl ?_
      refine z_icmp_ge (tgt := 52) dX5_sumOfCosts_12 (by decide) (by omega) (by omega) (fun c12 => ?_) (fun c12 => absurd c12 (by omega))
      refine g_iload_n dX5_sumOfCosts_52 rfl ?_
      exact g_ireturn dX5_sumOfCosts_53 rfl (Nat.le_of_ble_eq_true rfl) (Nat.le_of_ble_eq_true rfl) ⟨rfl, rfl, by rw [List.take_length]⟩
    | succ n ih =>
      intro k hk hn
      have hk2 : k < L.length := by omega
      have hx := hr _ (List.getElem_mem hk2)
      have ih2 := ih (k + 1) (by omega) (by omega)
      rw [List.take_succ, List.getElem?_eq_getElem hk2, Option.toList_some, cst_snoc] at ih2
      have e1 := getD_map (fun x : iv => x.1) L hk2
      have e2 := getD_map (fun x : iv => x.2.1) L hk2
      have e3 := getD_map (fun x : iv => x.2.2) L hk2
      refine g_iload_n dX5_sumOfCosts_4 rfl ?_
      refine g_aload_n dX5_sumOfCosts_5 rfl ?_
      refine z_getf fl_X5_23 dX5_sumOfCosts_6 m_r rfl ?_
      refine z_getf fl_X5_36 dX5_sumOfCosts_9 m_v rfl ?_
      refine z_icmp_ge (tgt := 52) dX5_sumOfCosts_12 (by decide) (by omega) (by omega) (fun c12 => absurd c12 (by omega)) (fun c12 => ?_)
      refine g_iload_n dX5_sumOfCosts_15 rfl ?_
      refine g_aload_n dX5_sumOfCosts_16 rfl ?_
      refine z_getf fl_X5_20 dX5_sumOfCosts_17 m_r rfl ?_
      refine g_iload_n dX5_sumOfCosts_20 rfl ?_
      refine z_callVR dX5_sumOfCosts_21 lm_X5_39 lk_X6_item (Row_item (j := k) h2 (by omega)) rfl rfl (Rw.obj h2) rfl (mkRoom rfl rfl) (Nat.le_of_ble_eq_true rfl) (Nat.le_of_ble_eq_true rfl) (Nat.le_of_ble_eq_true rfl) ?_
      refine g_aload_n dX5_sumOfCosts_24 rfl ?_
      refine z_getf fl_X5_14 dX5_sumOfCosts_25 m_r rfl ?_
      refine g_iload_n dX5_sumOfCosts_28 rfl ?_
      refine z_callVR dX5_sumOfCosts_29 lm_X5_39 lk_X6_item (Row_item (j := k) h1 (by omega)) rfl rfl (Rw.obj h1) rfl (mkRoom rfl rfl) (Nat.le_of_ble_eq_true rfl) (Nat.le_of_ble_eq_true rfl) (Nat.le_of_ble_eq_true rfl) ?_
      refine z_isub dX5_sumOfCosts_32 ?_
      refine g_aload_n dX5_sumOfCosts_33 rfl ?_
      refine z_getf fl_X5_23 dX5_sumOfCosts_34 m_r rfl ?_
      refine g_iload_n dX5_sumOfCosts_37 rfl ?_
      refine z_callVR dX5_sumOfCosts_38 lm_X5_39 lk_X6_item (Row_item (j := k) h3 (by omega)) rfl rfl (Rw.obj h3) rfl (mkRoom rfl rfl) (Nat.le_of_ble_eq_true rfl) (Nat.le_of_ble_eq_true rfl) (Nat.le_of_ble_eq_true rfl) ?_
      refine z_callSR dX5_sumOfCosts_41 lm_X5_43 lk_X8_intervalCost (x_intervalCost (by rw [e1, e2]; exact hx.1) (by rw [e3]; exact hx.2)) rfl rfl (mkRoom rfl rfl) (Nat.le_of_ble_eq_true rfl) (Nat.le_of_ble_eq_true rfl) (Nat.le_of_ble_eq_true rfl) ?_
      refine z_iadd dX5_sumOfCosts_44 ?_
      refine g_istore_n dX5_sumOfCosts_45 rfl (Nat.le_of_ble_eq_true rfl) ?_
      refine z_iinc dX5_sumOfCosts_46 rfl (Nat.le_of_ble_eq_true rfl) ?_
      refine g_goto (tgt := 4) dX5_sumOfCosts_49 (by decide) ?_
      rw [e1, e2, e3]
      exact ih2
  refine z_iconst dX5_sumOfCosts_0 ?_
  refine g_istore_n dX5_sumOfCosts_1 rfl (Nat.le_of_ble_eq_true rfl) ?_
  refine z_iconst dX5_sumOfCosts_2 ?_
  refine g_istore_n dX5_sumOfCosts_3 rfl (Nat.le_of_ble_eq_true rfl) ?_
  exact loop L.length 0 (Nat.zero_le _) (by omega)
abbrev ac : Type := Int × Int × Int × Int
def Lg (M : pM) (lo : Nat) (A : List ac) (lng : Int) : Prop := M lo = some (ob 3 [.ref (lo + 1), .ref (lo + 3), .ref (lo + 5), .ref (lo + 7), vI lng]) ∧ Rw M (lo + 1) 201 (A.map (fun x => x.1)) ∧ Rw M (lo + 3) 201 (A.map (fun x => x.2.1)) ∧ Rw M (lo + 5) 201 (A.map (fun x => x.2.2.1)) ∧ Rw M (lo + 7) 201 (A.map (fun x => x.2.2.2))
theorem Lg.off {M M' : pM} {lo l h : Nat} {A : List ac} {lng : Int} (hh : Lg M lo A lng) (ho : Off M M' l h) (hd : lo + 9 ≤ l ∨ h ≤ lo) : Lg M' lo A lng := ⟨(ho _ (by omega)).trans hh.1, hh.2.1.off ho (by omega), hh.2.2.1.off ho (by omega), hh.2.2.2.1.off ho (by omega), hh.2.2.2.2.off ho (by omega)⟩
theorem Lg.len {M : pM} {lo : Nat} {A : List ac} {lng : Int} (h : Lg M lo A lng) : A.length ≤ 201 := by have := h.2.1.len.1; simpa using this
set_option maxHeartbeats 1000000 in
theorem Lg_clear {M : pM} {z lo : Nat} {A : List ac} {lng : Int} (h : Lg M lo A lng) : CW I_X3_clear yX3_clear [.ref lo] M z (fun M' r => r = none ∧ Lg M' lo [] 0 ∧ Off M M' lo (lo + 9)) := by
  obtain ⟨m_l, h1, h2, h3, h4⟩ := id h
  have fr : Off M M lo (lo + 9) := Off.rf
  refine C.intro (pl := [some (.ref lo)]) pn_X3 rfl (fun h => absurd h (by decide)) rfl (Nat.le_of_ble_eq_true rfl) rfl ?_
  refine g_aload_n dX3_clear_0 rfl ?_
  refine z_getf fl_X3_14 dX3_clear_1 m_l rfl ?_
  refine z_callVV dX3_clear_4 lm_X3_29 lk_X6_clear (Row_clear h1) rfl rfl (Rw.obj h1) rfl (mkRoom rfl rfl) (Nat.le_of_ble_eq_true rfl) (Nat.le_of_ble_eq_true rfl) (Nat.le_of_ble_eq_true rfl) (fun M r hp => ?_)
  obtain ⟨rfl, h1, o1⟩ := hp
  have m_l := (o1 _ (by omega)).trans m_l
  have h2 := h2.off o1 (by omega)
  have h3 := h3.off o1 (by omega)
  have h4 := h4.off o1 (by omega)
  have fr := fr.tr (o1.wd (by omega) (by omega))
  refine g_aload_n dX3_clear_7 rfl ?_
  refine z_getf fl_X3_20 dX3_clear_8 m_l rfl ?_
  refine z_callVV dX3_clear_11 lm_X3_29 lk_X6_clear (Row_clear h2) rfl rfl (Rw.obj h2) rfl (mkRoom rfl rfl) (Nat.le_of_ble_eq_true rfl) (Nat.le_of_ble_eq_true rfl) (Nat.le_of_ble_eq_true rfl) (fun M r hp => ?_)
  obtain ⟨rfl, h2, o1⟩ := hp
  have m_l := (o1 _ (by omega)).trans m_l
  have h1 := h1.off o1 (by omega)
  have h3 := h3.off o1 (by omega)
  have h4 := h4.off o1 (by omega)
  have fr := fr.tr (o1.wd (by omega) (by omega))
  refine g_aload_n dX3_clear_14 rfl ?_
  refine z_getf fl_X3_23 dX3_clear_15 m_l rfl ?_
  refine z_callVV dX3_clear_18 lm_X3_29 lk_X6_clear (Row_clear h3) rfl rfl (Rw.obj h3) rfl (mkRoom rfl rfl) (Nat.le_of_ble_eq_true rfl) (Nat.le_of_ble_eq_true rfl) (Nat.le_of_ble_eq_true rfl) (fun M r hp => ?_)
  obtain ⟨rfl, h3, o1⟩ := hp
  have m_l := (o1 _ (by omega)).trans m_l
  have h1 := h1.off o1 (by omega)
  have h2 := h2.off o1 (by omega)
  have h4 := h4.off o1 (by omega)
  have fr := fr.tr (o1.wd (by omega) (by omega))
  refine g_aload_n dX3_clear_21 rfl ?_
  refine z_getf fl_X3_26 dX3_clear_22 m_l rfl ?_
  refine z_callVV dX3_clear_25 lm_X3_29 lk_X6_clear (Row_clear h4) rfl rfl (Rw.obj h4) rfl (mkRoom rfl rfl) (Nat.le_of_ble_eq_true rfl) (Nat.le_of_ble_eq_true rfl) (Nat.le_of_ble_eq_true rfl) (fun M r hp => ?_)
  obtain ⟨rfl, h4, o1⟩ := hp
  have m_l := (o1 _ (by omega)).trans m_l
  have h1 := h1.off o1 (by omega)
  have h2 := h2.off o1 (by omega)
  have h3 := h3.off o1 (by omega)
  have fr := fr.tr (o1.wd (by omega) (by omega))
  refine g_aload_n dX3_clear_28 rfl ?_
  refine z_iconst dX3_clear_29 ?_
  refine z_putf fl_X3_32 dX3_clear_30 m_l rfl (Nat.le_of_ble_eq_true rfl) rfl rfl (fun M m_l o => ?_)
  have fr := fr.one o (by omega)
  have o1 : Off _ M lo (lo + 1) := fun x hx => o x (by omega)
  have h1 := h1.off o1 (by omega)
  have h2 := h2.off o1 (by omega)
  have h3 := h3.off o1 (by omega)
  have h4 := h4.off o1 (by omega)
  exact g_return dX3_clear_33 rfl (Nat.le_of_ble_eq_true rfl) (Nat.le_of_ble_eq_true rfl) ⟨rfl, rfl, ⟨m_l, h1, h2, h3, h4⟩, fr⟩
set_option maxHeartbeats 1000000 in
theorem Lg_add {M : pM} {z lo : Nat} {A : List ac} {lng a b c d : Int} (h : Lg M lo A lng) (hl : A.length < 201) : CW I_X3_add yX3_add [.ref lo, vI a, vI b, vI c, vI d] M z (fun M' r => r = none ∧ Lg M' lo (A ++ [(a, b, c, d)]) lng ∧ Off M M' lo (lo + 9)) := by
  obtain ⟨m_l, h1, h2, h3, h4⟩ := id h
  have fr : Off M M lo (lo + 9) := Off.rf
  refine C.intro (pl := [some (.ref lo), some (vI a), some (vI b), some (vI c), some (vI d)]) pn_X3 rfl (fun h => absurd h (by decide)) rfl (Nat.le_of_ble_eq_true rfl) rfl ?_
  refine g_aload_n dX3_add_0 rfl ?_
  refine z_getf fl_X3_14 dX3_add_1 m_l rfl ?_
  refine g_iload_n dX3_add_4 rfl ?_
  refine z_callVV dX3_add_5 lm_X3_36 lk_X6_push (Row_push h1) rfl rfl (Rw.obj h1) rfl (mkRoom rfl rfl) (Nat.le_of_ble_eq_true rfl) (Nat.le_of_ble_eq_true rfl) (Nat.le_of_ble_eq_true rfl) (fun M r hp => ?_)
  obtain ⟨rfl, h1, o1⟩ := hp
  have m_l := (o1 _ (by omega)).trans m_l
  have h2 := h2.off o1 (by omega)
  have h3 := h3.off o1 (by omega)
  have h4 := h4.off o1 (by omega)
  have fr := fr.tr (o1.wd (by omega) (by omega))
  rw [if_pos (by simpa using hl)] at h1
  refine g_aload_n dX3_add_8 rfl ?_
  refine z_getf fl_X3_20 dX3_add_9 m_l rfl ?_
  refine g_iload_n dX3_add_12 rfl ?_
  refine z_callVV dX3_add_13 lm_X3_36 lk_X6_push (Row_push h2) rfl rfl (Rw.obj h2) rfl (mkRoom rfl rfl) (Nat.le_of_ble_eq_true rfl) (Nat.le_of_ble_eq_true rfl) (Nat.le_of_ble_eq_true rfl) (fun M r hp => ?_)
  obtain ⟨rfl, h2, o1⟩ := hp
  have m_l := (o1 _ (by omega)).trans m_l
  have h1 := h1.off o1 (by omega)
  have h3 := h3.off o1 (by omega)
  have h4 := h4.off o1 (by omega)
  have fr := fr.tr (o1.wd (by omega) (by omega))
  rw [if_pos (by simpa using hl)] at h2
  refine g_aload_n dX3_add_16 rfl ?_
  refine z_getf fl_X3_23 dX3_add_17 m_l rfl ?_
  refine g_iload_n dX3_add_20 rfl ?_
  refine z_callVV dX3_add_21 lm_X3_36 lk_X6_push (Row_push h3) rfl rfl (Rw.obj h3) rfl (mkRoom rfl rfl) (Nat.le_of_ble_eq_true rfl) (Nat.le_of_ble_eq_true rfl) (Nat.le_of_ble_eq_true rfl) (fun M r hp => ?_)
  obtain ⟨rfl, h3, o1⟩ := hp
  have m_l := (o1 _ (by omega)).trans m_l
  have h1 := h1.off o1 (by omega)
  have h2 := h2.off o1 (by omega)
  have h4 := h4.off o1 (by omega)
  have fr := fr.tr (o1.wd (by omega) (by omega))
  rw [if_pos (by simpa using hl)] at h3
  refine g_aload_n dX3_add_24 rfl ?_
  refine z_getf fl_X3_26 dX3_add_25 m_l rfl ?_
  refine g_iload dX3_add_28 rfl ?_
  refine z_callVV dX3_add_30 lm_X3_36 lk_X6_push (Row_push h4) rfl rfl (Rw.obj h4) rfl (mkRoom rfl rfl) (Nat.le_of_ble_eq_true rfl) (Nat.le_of_ble_eq_true rfl) (Nat.le_of_ble_eq_true rfl) (fun M r hp => ?_)
  obtain ⟨rfl, h4, o1⟩ := hp
  have m_l := (o1 _ (by omega)).trans m_l
  have h1 := h1.off o1 (by omega)
  have h2 := h2.off o1 (by omega)
  have h3 := h3.off o1 (by omega)
  have fr := fr.tr (o1.wd (by omega) (by omega))
  rw [if_pos (by simpa using hl)] at h4
  exact g_return dX3_add_33 rfl (Nat.le_of_ble_eq_true rfl) (Nat.le_of_ble_eq_true rfl) ⟨rfl, rfl, ⟨m_l, by rw [List.map_append]; exact h1, by rw [List.map_append]; exact h2, by rw [List.map_append]; exact h3, by rw [List.map_append]; exact h4⟩, fr⟩
set_option maxHeartbeats 1000000 in
theorem Lg_take {M : pM} {z lo l2 : Nat} {A A2 : List ac} {lng lng2 : Int} (h : Lg M lo A lng) (g : Lg M l2 A2 lng2) (hd : lo + 9 ≤ l2 ∨ l2 + 9 ≤ lo) : CW I_X3_take yX3_take [.ref lo, .ref l2] M z (fun M' r => r = none ∧ Lg M' lo A2 lng2 ∧ Off M M' lo (lo + 9)) := by
  obtain ⟨m_l, h1, h2, h3, h4⟩ := id h
  have fr : Off M M lo (lo + 9) := Off.rf
  obtain ⟨m_p, g1, g2, g3, g4⟩ := id g
  have hl2 := g.len
  refine C.intro (pl := [some (.ref lo), some (.ref l2)]) pn_X3 rfl (fun h => absurd h (by decide)) rfl (Nat.le_of_ble_eq_true rfl) rfl ?_
  refine g_aload_n dX3_take_0 rfl ?_
  refine z_getf fl_X3_14 dX3_take_1 m_l rfl ?_
  refine g_aload_n dX3_take_4 rfl ?_
  refine z_getf fl_X3_14 dX3_take_5 m_p rfl ?_
  refine z_callVV dX3_take_8 lm_X3_39 lk_X6_take (Row_take h1 g1 (by omega) (by simpa using hl2)) rfl rfl (Rw.obj h1) rfl (mkRoom rfl rfl) (Nat.le_of_ble_eq_true rfl) (Nat.le_of_ble_eq_true rfl) (Nat.le_of_ble_eq_true rfl) (fun M r hp => ?_)
  obtain ⟨rfl, h1, o1⟩ := hp
  have m_l := (o1 _ (by omega)).trans m_l
  have m_p := (o1 _ (by omega)).trans m_p
  have h2 := h2.off o1 (by omega)
  have h3 := h3.off o1 (by omega)
  have h4 := h4.off o1 (by omega)
  have g1 := g1.off o1 (by omega)
  have g2 := g2.off o1 (by omega)
  have g3 := g3.off o1 (by omega)
  have g4 := g4.off o1 (by omega)
  have fr := fr.tr (o1.wd (by omega) (by omega))
  refine g_aload_n dX3_take_11 rfl ?_
  refine z_getf fl_X3_20 dX3_take_12 m_l rfl ?_
  refine g_aload_n dX3_take_15 rfl ?_
  refine z_getf fl_X3_20 dX3_take_16 m_p rfl ?_
  refine z_callVV dX3_take_19 lm_X3_39 lk_X6_take (Row_take h2 g2 (by omega) (by simpa using hl2)) rfl rfl (Rw.obj h2) rfl (mkRoom rfl rfl) (Nat.le_of_ble_eq_true rfl) (Nat.le_of_ble_eq_true rfl) (Nat.le_of_ble_eq_true rfl) (fun M r hp => ?_)
  obtain ⟨rfl, h2, o1⟩ := hp
  have m_l := (o1 _ (by omega)).trans m_l
  have m_p := (o1 _ (by omega)).trans m_p
  have h1 := h1.off o1 (by omega)
  have h3 := h3.off o1 (by omega)
  have h4 := h4.off o1 (by omega)
  have g1 := g1.off o1 (by omega)
  have g2 := g2.off o1 (by omega)
  have g3 := g3.off o1 (by omega)
  have g4 := g4.off o1 (by omega)
  have fr := fr.tr (o1.wd (by omega) (by omega))
  refine g_aload_n dX3_take_22 rfl ?_
  refine z_getf fl_X3_23 dX3_take_23 m_l rfl ?_
  refine g_aload_n dX3_take_26 rfl ?_
  refine z_getf fl_X3_23 dX3_take_27 m_p rfl ?_
  refine z_callVV dX3_take_30 lm_X3_39 lk_X6_take (Row_take h3 g3 (by omega) (by simpa using hl2)) rfl rfl (Rw.obj h3) rfl (mkRoom rfl rfl) (Nat.le_of_ble_eq_true rfl) (Nat.le_of_ble_eq_true rfl) (Nat.le_of_ble_eq_true rfl) (fun M r hp => ?_)
  obtain ⟨rfl, h3, o1⟩ := hp
  have m_l := (o1 _ (by omega)).trans m_l
  have m_p := (o1 _ (by omega)).trans m_p
  have h1 := h1.off o1 (by omega)
  have h2 := h2.off o1 (by omega)
  have h4 := h4.off o1 (by omega)
  have g1 := g1.off o1 (by omega)
  have g2 := g2.off o1 (by omega)
  have g3 := g3.off o1 (by omega)
  have g4 := g4.off o1 (by omega)
  have fr := fr.tr (o1.wd (by omega) (by omega))
  refine g_aload_n dX3_take_33 rfl ?_
  refine z_getf fl_X3_26 dX3_take_34 m_l rfl ?_
  refine g_aload_n dX3_take_37 rfl ?_
  refine z_getf fl_X3_26 dX3_take_38 m_p rfl ?_
  refine z_callVV dX3_take_41 lm_X3_39 lk_X6_take (Row_take h4 g4 (by omega) (by simpa using hl2)) rfl rfl (Rw.obj h4) rfl (mkRoom rfl rfl) (Nat.le_of_ble_eq_true rfl) (Nat.le_of_ble_eq_true rfl) (Nat.le_of_ble_eq_true rfl) (fun M r hp => ?_)
  obtain ⟨rfl, h4, o1⟩ := hp
  have m_l := (o1 _ (by omega)).trans m_l
  have m_p := (o1 _ (by omega)).trans m_p
  have h1 := h1.off o1 (by omega)
  have h2 := h2.off o1 (by omega)
  have h3 := h3.off o1 (by omega)
  have g1 := g1.off o1 (by omega)
  have g2 := g2.off o1 (by omega)
  have g3 := g3.off o1 (by omega)
  have g4 := g4.off o1 (by omega)
  have fr := fr.tr (o1.wd (by omega) (by omega))
  refine g_aload_n dX3_take_44 rfl ?_
  refine g_aload_n dX3_take_45 rfl ?_
  refine z_getf fl_X3_32 dX3_take_46 m_p rfl ?_
  refine z_putf fl_X3_32 dX3_take_49 m_l rfl (Nat.le_of_ble_eq_true rfl) rfl rfl (fun M m_l o => ?_)
  have m_p := (o _ (by omega)).trans m_p
  have fr := fr.one o (by omega)
  have o1 : Off _ M lo (lo + 1) := fun x hx => o x (by omega)
  have h1 := h1.off o1 (by omega)
  have h2 := h2.off o1 (by omega)
  have h3 := h3.off o1 (by omega)
  have h4 := h4.off o1 (by omega)
  exact g_return dX3_take_52 rfl (Nat.le_of_ble_eq_true rfl) (Nat.le_of_ble_eq_true rfl) ⟨rfl, rfl, ⟨m_l, h1, h2, h3, h4⟩, fr⟩
def Stt (M : pM) (st : Nat) (ord exc stp lim : Int) (t : tbl) (code : List Int) (A : List ac) (lng : Int) (res : List Int) : Prop := M st = some (ob 7 [vI ord, vI exc, vI stp, vI lim, .ref (st + 1), .ref (st + 6), .ref (st + 8), .ref (st + 17)]) ∧ Md M (st + 1) t ∧ Rw M (st + 6) 400 code ∧ Lg M (st + 8) A lng ∧ Rw M (st + 17) 200 res
theorem Stt.off {M M' : pM} {st l h : Nat} {ord exc stp lim : Int} {t : tbl} {code : List Int} {A : List ac} {lng : Int} {res : List Int} (hh : Stt M st ord exc stp lim t code A lng res) (ho : Off M M' l h) (hd : st + 19 ≤ l ∨ h ≤ st) : Stt M' st ord exc stp lim t code A lng res := ⟨(ho _ (by omega)).trans hh.1, hh.2.1.off ho (by omega), hh.2.2.1.off ho (by omega), hh.2.2.2.1.off ho (by omega), hh.2.2.2.2.off ho (by omega)⟩
set_option maxHeartbeats 1000000 in
theorem Stt_settings {M : pM} {z st s2 : Nat} {ord exc stp lim ord2 exc2 stp2 lim2 : Int} {t t2 : tbl} {code code2 : List Int} {A A2 : List ac} {lng lng2 : Int} {res res2 : List Int} (h : Stt M st ord exc stp lim t code A lng res) (g : Stt M s2 ord2 exc2 stp2 lim2 t2 code2 A2 lng2 res2) (he : exc2 = 0 ∨ exc2 = 1) (hd : st + 19 ≤ s2 ∨ s2 + 19 ≤ st) : CW I_X7_takeSettings yX7_takeSettings [.ref st, .ref s2] M z (fun M' r => r = none ∧ Stt M' st ord2 exc2 stp2 lim2 t code A lng res ∧ Off M M' st (st + 19)) := by
  obtain ⟨m_s, h1, h2, h3, h4⟩ := id h
  obtain ⟨m_p, g1, g2, g3, g4⟩ := id g
  have fr : Off M M st (st + 19) := Off.rf
  refine C.intro (pl := [some (.ref st), some (.ref s2)]) pn_X7 rfl (fun h => absurd h (by decide)) rfl (Nat.le_of_ble_eq_true rfl) rfl ?_
  refine g_aload_n dX7_takeSettings_0 rfl ?_
  refine g_aload_n dX7_takeSettings_1 rfl ?_
  refine z_getf fl_X7_51 dX7_takeSettings_2 m_p rfl ?_
  refine z_putf fl_X7_51 dX7_takeSettings_5 m_s rfl (Nat.le_of_ble_eq_true rfl) rfl rfl (fun M m_s o => ?_)
  have m_p := (o _ (by omega)).trans m_p
  have fr := fr.one o (by omega)
  have o1 : Off _ M st (st + 1) := fun x hx => o x (by omega)
  have h1 := h1.off o1 (by omega)
  have h2 := h2.off o1 (by omega)
  have h3 := h3.off o1 (by omega)
  have h4 := h4.off o1 (by omega)
  refine g_aload_n dX7_takeSettings_8 rfl ?_
  refine g_aload_n dX7_takeSettings_9 rfl ?_
  refine z_getf fl_X7_55 dX7_takeSettings_10 m_p rfl ?_
  refine z_putf fl_X7_55 dX7_takeSettings_13 m_s rfl (Nat.le_of_ble_eq_true rfl) (by rcases he with rfl | rfl <;> rfl) (by rcases he with rfl | rfl <;> rfl) (fun M m_s o => ?_)
  have m_p := (o _ (by omega)).trans m_p
  have fr := fr.one o (by omega)
  have o1 : Off _ M st (st + 1) := fun x hx => o x (by omega)
  have h1 := h1.off o1 (by omega)
  have h2 := h2.off o1 (by omega)
  have h3 := h3.off o1 (by omega)
  have h4 := h4.off o1 (by omega)
  refine g_aload_n dX7_takeSettings_16 rfl ?_
  refine g_aload_n dX7_takeSettings_17 rfl ?_
  refine z_getf fl_X7_59 dX7_takeSettings_18 m_p rfl ?_
  refine z_putf fl_X7_59 dX7_takeSettings_21 m_s rfl (Nat.le_of_ble_eq_true rfl) rfl rfl (fun M m_s o => ?_)
  have m_p := (o _ (by omega)).trans m_p
  have fr := fr.one o (by omega)
  have o1 : Off _ M st (st + 1) := fun x hx => o x (by omega)
  have h1 := h1.off o1 (by omega)
  have h2 := h2.off o1 (by omega)
  have h3 := h3.off o1 (by omega)
  have h4 := h4.off o1 (by omega)
  refine g_aload_n dX7_takeSettings_24 rfl ?_
  refine g_aload_n dX7_takeSettings_25 rfl ?_
  refine z_getf fl_X7_62 dX7_takeSettings_26 m_p rfl ?_
  refine z_putf fl_X7_62 dX7_takeSettings_29 m_s rfl (Nat.le_of_ble_eq_true rfl) rfl rfl (fun M m_s o => ?_)
  have m_p := (o _ (by omega)).trans m_p
  have fr := fr.one o (by omega)
  have o1 : Off _ M st (st + 1) := fun x hx => o x (by omega)
  have h1 := h1.off o1 (by omega)
  have h2 := h2.off o1 (by omega)
  have h3 := h3.off o1 (by omega)
  have h4 := h4.off o1 (by omega)
  exact g_return dX7_takeSettings_32 rfl (Nat.le_of_ble_eq_true rfl) (Nat.le_of_ble_eq_true rfl) ⟨rfl, rfl, ⟨m_s, h1, h2, h3, h4⟩, fr⟩
set_option maxHeartbeats 1000000 in
theorem Stt_take {M : pM} {z st s2 : Nat} {ord exc stp lim ord2 exc2 stp2 lim2 : Int} {t t2 : tbl} {code code2 : List Int} {A A2 : List ac} {lng lng2 : Int} {res res2 : List Int} (h : Stt M st ord exc stp lim t code A lng res) (g : Stt M s2 ord2 exc2 stp2 lim2 t2 code2 A2 lng2 res2) (he : exc2 = 0 ∨ exc2 = 1) (hd : st + 19 ≤ s2 ∨ s2 + 19 ≤ st) : CW I_X7_take yX7_take [.ref st, .ref s2] M z (fun M' r => r = none ∧ Stt M' st ord2 exc2 stp2 lim2 t2 code2 A2 lng2 res2 ∧ Off M M' st (st + 19)) := by
  obtain ⟨m_s, h1, h2, h3, h4⟩ := id h
  obtain ⟨m_p, g1, g2, g3, g4⟩ := id g
  have fr : Off M M st (st + 19) := Off.rf
  refine C.intro (pl := [some (.ref st), some (.ref s2)]) pn_X7 rfl (fun h => absurd h (by decide)) rfl (Nat.le_of_ble_eq_true rfl) rfl ?_
  refine g_aload_n dX7_take_0 rfl ?_
  refine g_aload_n dX7_take_1 rfl ?_
  refine z_callVV dX7_take_2 lm_X7_37 lk_X7_takeSettings (Stt_settings h g he hd) rfl rfl m_s rfl (mkRoom rfl rfl) (Nat.le_of_ble_eq_true rfl) (Nat.le_of_ble_eq_true rfl) (Nat.le_of_ble_eq_true rfl) (fun M r hp => ?_)
  obtain ⟨rfl, h, o1⟩ := hp
  obtain ⟨m_s, h1, h2, h3, h4⟩ := id h
  have g := g.off o1 (by omega)
  obtain ⟨m_p, g1, g2, g3, g4⟩ := id g
  have fr := fr.tr o1
  refine g_aload_n dX7_take_5 rfl ?_
  refine z_getf fl_X7_12 dX7_take_6 m_s rfl ?_
  refine g_aload_n dX7_take_9 rfl ?_
  refine z_getf fl_X7_12 dX7_take_10 m_p rfl ?_
  refine z_callVV dX7_take_13 lm_X7_41 lk_X4_take (Md_take h1 g1 (by omega)) rfl rfl (Md.obj h1) rfl (mkRoom rfl rfl) (Nat.le_of_ble_eq_true rfl) (Nat.le_of_ble_eq_true rfl) (Nat.le_of_ble_eq_true rfl) (fun M r hp => ?_)
  obtain ⟨rfl, h1, o1⟩ := hp
  have m_s := (o1 _ (by omega)).trans m_s
  have m_p := (o1 _ (by omega)).trans m_p
  have h2 := h2.off o1 (by omega)
  have h3 := h3.off o1 (by omega)
  have h4 := h4.off o1 (by omega)
  have g1 := g1.off o1 (by omega)
  have g2 := g2.off o1 (by omega)
  have g3 := g3.off o1 (by omega)
  have g4 := g4.off o1 (by omega)
  have fr := fr.tr (o1.wd (by omega) (by omega))
  refine g_aload_n dX7_take_16 rfl ?_
  refine z_getf fl_X7_23 dX7_take_17 m_s rfl ?_
  refine g_aload_n dX7_take_20 rfl ?_
  refine z_getf fl_X7_23 dX7_take_21 m_p rfl ?_
  refine z_callVV dX7_take_24 lm_X7_45 lk_X6_take (Row_take h2 g2 (by omega) g2.len.1) rfl rfl (Rw.obj h2) rfl (mkRoom rfl rfl) (Nat.le_of_ble_eq_true rfl) (Nat.le_of_ble_eq_true rfl) (Nat.le_of_ble_eq_true rfl) (fun M r hp => ?_)
  obtain ⟨rfl, h2, o1⟩ := hp
  have m_s := (o1 _ (by omega)).trans m_s
  have m_p := (o1 _ (by omega)).trans m_p
  have h1 := h1.off o1 (by omega)
  have h3 := h3.off o1 (by omega)
  have h4 := h4.off o1 (by omega)
  have g1 := g1.off o1 (by omega)
  have g2 := g2.off o1 (by omega)
  have g3 := g3.off o1 (by omega)
  have g4 := g4.off o1 (by omega)
  have fr := fr.tr (o1.wd (by omega) (by omega))
  refine g_aload_n dX7_take_27 rfl ?_
  refine z_getf fl_X7_30 dX7_take_28 m_s rfl ?_
  refine g_aload_n dX7_take_31 rfl ?_
  refine z_getf fl_X7_30 dX7_take_32 m_p rfl ?_
  refine z_callVV dX7_take_35 lm_X7_48 lk_X3_take (Lg_take h3 g3 (by omega)) rfl rfl h3.1 rfl (mkRoom rfl rfl) (Nat.le_of_ble_eq_true rfl) (Nat.le_of_ble_eq_true rfl) (Nat.le_of_ble_eq_true rfl) (fun M r hp => ?_)
  obtain ⟨rfl, h3, o1⟩ := hp
  have m_s := (o1 _ (by omega)).trans m_s
  have m_p := (o1 _ (by omega)).trans m_p
  have h1 := h1.off o1 (by omega)
  have h2 := h2.off o1 (by omega)
  have h4 := h4.off o1 (by omega)
  have g1 := g1.off o1 (by omega)
  have g2 := g2.off o1 (by omega)
  have g3 := g3.off o1 (by omega)
  have g4 := g4.off o1 (by omega)
  have fr := fr.tr (o1.wd (by omega) (by omega))
  refine g_aload_n dX7_take_38 rfl ?_
  refine z_getf fl_X7_34 dX7_take_39 m_s rfl ?_
  refine g_aload_n dX7_take_42 rfl ?_
  refine z_getf fl_X7_34 dX7_take_43 m_p rfl ?_
  refine z_callVV dX7_take_46 lm_X7_45 lk_X6_take (Row_take h4 g4 (by omega) g4.len.1) rfl rfl (Rw.obj h4) rfl (mkRoom rfl rfl) (Nat.le_of_ble_eq_true rfl) (Nat.le_of_ble_eq_true rfl) (Nat.le_of_ble_eq_true rfl) (fun M r hp => ?_)
  obtain ⟨rfl, h4, o1⟩ := hp
  have m_s := (o1 _ (by omega)).trans m_s
  have m_p := (o1 _ (by omega)).trans m_p
  have h1 := h1.off o1 (by omega)
  have h2 := h2.off o1 (by omega)
  have h3 := h3.off o1 (by omega)
  have g1 := g1.off o1 (by omega)
  have g2 := g2.off o1 (by omega)
  have g3 := g3.off o1 (by omega)
  have g4 := g4.off o1 (by omega)
  have fr := fr.tr (o1.wd (by omega) (by omega))
  exact g_return dX7_take_49 rfl (Nat.le_of_ble_eq_true rfl) (Nat.le_of_ble_eq_true rfl) ⟨rfl, rfl, ⟨m_s, h1, h2, h3, h4⟩, fr⟩
end
section
/-! a table that learns -/
def okT (t : tbl) : Prop := t.length ≤ 250 ∧ ∀ e ∈ t, okE e ∧ wt e.2 ≤ 1000 ∧ 1 ≤ kn e.2
def inc1 (t : tbl) (k : Int) (s : Nat) (stp lim : Int) : tbl := if 0 ≤ (met t k).2 then rse (met t k).1 (met t k).2.toNat s stp lim else (met t k).1
def incr (t : tbl) (f : Nat → Int) (s : Nat) (stp lim : Int) : Nat → tbl
  | 0 => t
  | n + 1 => inc1 (incr t f s stp lim n) (f n) s stp lim
theorem okT_nil : okT [] := ⟨by simp, by simp⟩
theorem grw_ok {c : Nat → Int} {s : Nat} {stp lim : Int} (h0 : ∀ x, x < 96 → 0 ≤ c x) (hw : wt c ≤ 1000) (hs : s < 96) (hst : 1 ≤ stp ∧ stp ≤ 10) (hli : 20 ≤ lim ∧ lim ≤ 1000) : (∀ x, x < 96 → 0 ≤ grw c s stp lim x) ∧ wt (grw c s stp lim) ≤ 1000 ∧ 1 ≤ kn (grw c s stp lim) := by
  have hu : ∀ x, x < 96 → 0 ≤ upZ c s (c s + stp) x := by
    intro x hx
    by_cases e : x = s
    · subst e; rw [upZ_s]; have := h0 x hx; omega
    · rw [upZ_n e]; exact h0 x hx
  have hwu : wt (upZ c s (c s + stp)) = wt c + stp := by unfold wt; rw [sm_up hs]; omega
  have hci := h0 s hs
  have hku := kn_up (c := c) (s := s) (v := c s + stp) hs
  rw [if_pos (show 0 < c s + stp by omega)] at hku
  have hk1 : (if 0 < c s then (1 : Int) else 0) ≤ kn c := sm_le (c := fun s => if 0 < c s then (1 : Int) else 0) hs (fun x _ => by have := kn_01 c x; omega)
  unfold grw
  split
  · next hgt =>
    refine ⟨fun x hx => by have := hu x hx; show 0 ≤ (upZ c s (c s + stp) x + 1) / 2; omega, ?_, ?_⟩
    · have h1 := sm_half (c := upZ c s (c s + stp)) (n := 96)
      unfold wt at hwu hw ⊢
      omega
    · have e : kn (fun x => (upZ c s (c s + stp) x + 1) / 2) = kn (upZ c s (c s + stp)) := by
        unfold kn
        refine sm_cong (fun x hx => ?_)
        have := hu x hx
        show (if 0 < (upZ c s (c s + stp) x + 1) / 2 then (1 : Int) else 0) = if 0 < upZ c s (c s + stp) x then 1 else 0
        by_cases hz : 0 < upZ c s (c s + stp) x
        · rw [if_pos hz, if_pos (by omega)]
        · rw [if_neg hz, if_neg (by omega)]
      rw [e]; omega
  · exact ⟨hu, by omega, by omega⟩
theorem okE_mk {k : Int} {c : Nat → Int} (hk : 0 ≤ k ∧ k < 2147483648) (h0 : ∀ s, s < 96 → 0 ≤ c s) (hw : wt c ≤ 1000) : okE (k, c) := ⟨hk, h0, by
  have h2 : wt c ≤ 1010 := by omega
  exact h2⟩
theorem okT_set {t : tbl} (h : okT t) {i s : Nat} {stp lim : Int} (hi : i < t.length) (hs : s < 96) (hst : 1 ≤ stp ∧ stp ≤ 10) (hli : 20 ≤ lim ∧ lim ≤ 1000) : okT (rse t i s stp lim) := by
  have hoi := h.2 _ (List.getElem_mem hi)
  obtain ⟨g1, g2, g3⟩ := grw_ok (s := s) hoi.1.2.1 hoi.2.1 hs hst hli
  unfold rse
  rw [List.getElem?_eq_getElem hi]
  refine ⟨by rw [List.length_set]; exact h.1, fun e he => ?_⟩
  rcases List.mem_or_eq_of_mem_set he with he | rfl
  · exact h.2 e he
  · dsimp only; exact ⟨okE_mk hoi.1.1 g1 g2, g2, g3⟩
/-- a table in which all is well but a last context that nothing was met in -/
def okM (t : tbl) : Prop := t.length ≤ 250 ∧ ∀ e ∈ t, okE e ∧ wt e.2 ≤ 1000
theorem met_cases (t : tbl) (k : Int) : ((met t k).1 = t ∧ (met t k).2 = -1 ∧ fnd t k = -1 ∧ 250 ≤ t.length) ∨ (∃ (i : Nat) (h : i < t.length), (met t k).1 = t ∧ (met t k).2 = i ∧ fnd t k = i ∧ t[i].1 = k) ∨ (fnd t k = -1 ∧ t.length < 250 ∧ (met t k).1 = t ++ [(k, fun _ => 0)] ∧ (met t k).2 = t.length) := by
  unfold met
  rcases fnd_cases t k with ⟨h1, h2⟩ | ⟨i, hi, h1, h2⟩
  · by_cases hl : 250 ≤ t.length
    · rw [if_pos (Or.inr hl)]; exact Or.inl ⟨rfl, h1, h1, hl⟩
    · rw [if_neg (by omega)]; exact Or.inr (Or.inr ⟨h1, by omega, rfl, rfl⟩)
  · rw [if_pos (Or.inl (by omega))]; exact Or.inr (Or.inl ⟨i, hi, rfl, h1, h1, h2⟩)
theorem okT_met {t : tbl} (h : okT t) {k : Int} (hk : 0 ≤ k ∧ k < 2147483648) : okM (met t k).1 ∧ -1 ≤ (met t k).2 ∧ (0 ≤ (met t k).2 → (met t k).2.toNat < (met t k).1.length) := by
  have hM : okM t := ⟨h.1, fun e he => ⟨(h.2 e he).1, (h.2 e he).2.1⟩⟩
  rcases met_cases t k with ⟨h1, h2, -⟩ | ⟨i, hi, h1, h2, -⟩ | ⟨-, hl, h1, h2⟩
  · rw [h1, h2]; exact ⟨hM, by omega, by omega⟩
  · rw [h1, h2]; exact ⟨hM, by omega, by omega⟩
  · rw [h1, h2]
    refine ⟨⟨by simp; omega, fun e he => ?_⟩, by omega, fun _ => by simp⟩
    rcases List.mem_append.mp he with he | he
    · exact hM.2 e he
    · rw [List.mem_singleton] at he
      subst he
      exact ⟨⟨hk, fun _ _ => Int.le_refl _, by show wt (fun _ => 0) ≤ 1010; rw [wt_0]; decide⟩, by show wt (fun _ => 0) ≤ 1000; rw [wt_0]; decide⟩
theorem okT_inc1 {t : tbl} (h : okT t) {k : Int} {s : Nat} {stp lim : Int} (hk : 0 ≤ k ∧ k < 2147483648) (hs : s < 96) (hst : 1 ≤ stp ∧ stp ≤ 10) (hli : 20 ≤ lim ∧ lim ≤ 1000) : okT (inc1 t k s stp lim) := by
  unfold inc1
  rcases met_cases t k with ⟨h1, h2, -⟩ | ⟨i, hi, h1, h2, -⟩ | ⟨-, hl, h1, h2⟩
  · rw [h1, h2, if_neg (by omega)]; exact h
  · rw [h1, h2, if_pos (by omega), Int.toNat_natCast]; exact okT_set h hi hs hst hli
  · rw [h1, h2, if_pos (by omega), Int.toNat_natCast]
    unfold rse
    rw [List.getElem?_append_right (Nat.le_refl _), Nat.sub_self, List.getElem?_cons_zero]
    show okT ((t ++ [(k, fun _ => 0)]).set t.length (k, grw (fun _ => 0) s stp lim))
    obtain ⟨g1, g2, g3⟩ := grw_ok (c := fun _ => 0) (s := s) (fun _ _ => Int.le_refl _) (by rw [wt_0]; decide) hs hst hli
    refine ⟨by simp; omega, fun e he => ?_⟩
    rw [List.set_append_right _ _ (Nat.le_refl _), Nat.sub_self] at he
    rcases List.mem_append.mp he with he | he
    · exact h.2 e he
    · have he : e = (k, grw (fun _ => 0) s stp lim) := by simpa using he
      subst he
      dsimp only; exact ⟨okE_mk hk g1 g2, g2, g3⟩
theorem okT_incr {t : tbl} (h : okT t) {f : Nat → Int} {s : Nat} {stp lim : Int} (hs : s < 96) (hst : 1 ≤ stp ∧ stp ≤ 10) (hli : 20 ≤ lim ∧ lim ≤ 1000) : ∀ {n : Nat}, (∀ j, j < n → 0 ≤ f j ∧ f j < 2147483648) → okT (incr t f s stp lim n)
  | 0, _ => h
  | n + 1, hf => okT_inc1 (okT_incr h hs hst hli (fun j hj => hf j (by omega))) (hf n (by omega)) hs hst hli
/-- settings that are allowed -/
def okS (ord exc stp lim : Int) : Prop := (0 ≤ ord ∧ ord ≤ 3) ∧ (exc = 0 ∨ exc = 1) ∧ (1 ≤ stp ∧ stp ≤ 10) ∧ (20 ≤ lim ∧ lim ≤ 1000)
def ky (xs : List Int) (n : Nat) : Nat → Int := fun j => ck (cx xs n j)
theorem ky_rng {xs : List Int} {n j : Nat} (h : okX xs) (hn : n ≤ xs.length) (hj : j ≤ n) (h3 : j ≤ 3) : 0 ≤ ky xs n j ∧ ky xs n j < 2147483648 := ck_rng (cx_ok h) (by rw [cx_len hn hj]; exact h3)
/-- how many orders there are with a history of n characters -/
def nOrd (ord : Int) (n : Nat) : Nat := min ord.toNat n + 1
set_option maxHeartbeats 1000000 in
theorem Stt_increase {M : pM} {z st q N n s : Nat} {ord exc stp lim : Int} {r1 r2 r3 : Value} {t : tbl} {xs : List Int} (m_s : M st = some (ob 7 [vI ord, vI exc, vI stp, vI lim, .ref (st + 1), r1, r2, r3])) (h : Md M (st + 1) t) (ht : okT t) (hS : okS ord exc stp lim) (hq : Rw M q N xs) (hx : okX xs) (hn : n ≤ xs.length) (hs : s < 96) (hd : q + 2 ≤ st + 1 ∨ st + 6 ≤ q) : CW I_X7_increase yX7_increase [.ref st, .ref q, vI (n : Int), vI (s : Int)] M z (fun M' r => r = none ∧ Md M' (st + 1) (incr t (ky xs n) s stp lim (nOrd ord n)) ∧ Off M M' (st + 1) (st + 6)) := by
  obtain ⟨hS1, hS2, hS3, hS4⟩ := hS
  have fr : Off M M (st + 1) (st + 6) := Off.rf
  have hql := hq.len
  refine C.intro (pl := [some (.ref st), some (.ref q), some (vI (n : Int)), some (vI (s : Int)), none, none]) pn_X7 rfl (fun h => absurd h (by decide)) rfl (Nat.le_of_ble_eq_true rfl) rfl ?_
  have loop : ∀ (k j : Nat) (M1 : pM), j ≤ nOrd ord n → nOrd ord n - j = k → Off M M1 (st + 1) (st + 6) → Md M1 (st + 1) (incr t (ky xs n) s stp lim j) → ∀ K : Option Value, G I_X7_increase 0 0 (fun M' z' r' => z' = z ∧ r' = none ∧ Md M' (st + 1) (incr t (ky xs n) s stp lim (nOrd ord n)) ∧ Off M M' (st + 1) (st + 6)) 0 0 3 [some (.ref st), some (.ref q), some (vI (n : Int)), some (vI (s : Int)), some (vI (j : Int)), K] [] M1 z := by
    intro k
    induction k with
    | zero =>
      intro j M1 hj hk fr h K
      have m_s := (fr _ (by omega)).trans m_s
      have e : j = nOrd ord n := by omega
      subst e
      have hno : (nOrd ord n : Int) ≤ 4 ∧ (nOrd ord n : Int) > ord ∨ (nOrd ord n : Int) ≤ 4 ∧ (nOrd ord n : Int) > n := by unfold nOrd; omega
      refine g_iload dX7_increase_3 rfl ?_
      refine g_aload_n dX7_increase_5 rfl ?_
      refine z_getf fl_X7_51 dX7_increase_6 m_s rfl ?_
      refine z_icmp_gt (tgt := 63) dX7_increase_9 (by decide) (by omega) (by omega) (fun c9 => ?_) (fun c9 => ?_)
      · exact g_return dX7_increase_63 rfl (Nat.le_of_ble_eq_true rfl) (Nat.le_of_ble_eq_true rfl) ⟨rfl, rfl, h, fr⟩
      · refine g_iload dX7_increase_12 rfl ?_
        refine g_iload_n dX7_increase_14 rfl ?_
        refine z_icmp_gt (tgt := 63) dX7_increase_15 (by decide) (by omega) (by omega) (fun c15 => ?_) (fun c15 => absurd c15 (by omega))
        exact g_return dX7_increase_63 rfl (Nat.le_of_ble_eq_true rfl) (Nat.le_of_ble_eq_true rfl) ⟨rfl, rfl, h, fr⟩
    | succ k ih =>
      intro j M1 hj hk fr h K
      have m_s := (fr _ (by omega)).trans m_s
      have hq1 := hq.off fr (by omega)
      have hjo : (j : Int) ≤ ord ∧ j ≤ n := by unfold nOrd at hj hk; omega
      have hky := ky_rng (xs := xs) (n := n) (j := j) hx hn hjo.2 (by omega)
      have htj := okT_incr ht (f := ky xs n) (n := j) hs hS3 hS4 (fun i hi => ky_rng hx hn (by omega) (by omega))
      have hmt := okT_met htj hky
      have ih2 := fun M2 (fr2 : Off M M2 (st + 1) (st + 6)) h2 => ih (j + 1) M2 (by omega) (by omega) fr2 h2
      refine g_iload dX7_increase_3 rfl ?_
      refine g_aload_n dX7_increase_5 rfl ?_
      refine z_getf fl_X7_51 dX7_increase_6 m_s rfl ?_
      refine z_icmp_gt (tgt := 63) dX7_increase_9 (by decide) (by omega) (by omega) (fun c9 => absurd c9 (by omega)) (fun c9 => ?_)
      refine g_iload dX7_increase_12 rfl ?_
      refine g_iload_n dX7_increase_14 rfl ?_
      refine z_icmp_gt (tgt := 63) dX7_increase_15 (by decide) (by omega) (by omega) (fun c15 => absurd c15 (by omega)) (fun c15 => ?_)
      refine g_aload_n dX7_increase_18 rfl ?_
      refine z_getf fl_X7_12 dX7_increase_19 m_s rfl ?_
      refine g_aload_n dX7_increase_22 rfl ?_
      refine g_iload_n dX7_increase_23 rfl ?_
      refine g_iload dX7_increase_24 rfl ?_
      refine z_callSR dX7_increase_26 lm_X7_65 lk_X8_contextKey (x_contextKey (j := j) hq1 hn hjo.2) rfl rfl (mkRoom rfl rfl) (Nat.le_of_ble_eq_true rfl) (Nat.le_of_ble_eq_true rfl) (Nat.le_of_ble_eq_true rfl) ?_
      refine z_callVV dX7_increase_29 lm_X7_69 lk_X4_meet (Md_meet h hky) rfl rfl h.obj rfl (mkRoom rfl rfl) (Nat.le_of_ble_eq_true rfl) (Nat.le_of_ble_eq_true rfl) (Nat.le_of_ble_eq_true rfl) (fun M r hp => ?_)
      obtain ⟨rfl, h, o1⟩ := hp
      have fr := fr.tr (o1.wd (by omega) (by omega))
      have m_s := (o1 _ (by omega)).trans m_s
      refine g_istore dX7_increase_32 (Nat.le_of_ble_eq_true rfl) ?_
      refine g_iload dX7_increase_34 rfl ?_
      refine z_if_lt (tgt := 57) dX7_increase_36 (by decide) (by have := hmt.2.1; have := hmt.2.2; have := hmt.1.1; omega) (fun c36 => ?_) (fun c36 => ?_)
      · refine z_iinc dX7_increase_57 rfl (Nat.le_of_ble_eq_true rfl) ?_
        refine g_goto (tgt := 3) dX7_increase_60 (by decide) ?_
        refine ih2 M fr ?_ _
        show Md M (st + 1) (inc1 _ _ _ _ _)
        unfold inc1
        first
        | (rw [if_pos c36]; exact h)
        | (rw [if_neg (by omega)]; exact h)
      · refine g_aload_n dX7_increase_39 rfl ?_
        refine z_getf fl_X7_12 dX7_increase_40 m_s rfl ?_
        refine g_iload dX7_increase_43 rfl ?_
        have e36 : vI (met (incr t (ky xs n) s stp lim j) (ky xs n j)).2 = vI (((met (incr t (ky xs n) s stp lim j) (ky xs n j)).2.toNat : Nat) : Int) := by rw [Int.toNat_of_nonneg c36]
        refine G.top e36 ?_
        refine g_iload_n dX7_increase_45 rfl ?_
        refine g_aload_n dX7_increase_46 rfl ?_
        refine z_getf fl_X7_59 dX7_increase_47 m_s rfl ?_
        refine g_aload_n dX7_increase_50 rfl ?_
        refine z_getf fl_X7_62 dX7_increase_51 m_s rfl ?_
        refine z_callVV dX7_increase_54 lm_X7_73 lk_X4_raise (Md_raise (i := (met (incr t (ky xs n) s stp lim j) (ky xs n j)).2.toNat) h (hmt.2.2 c36) hs (hmt.1.2 _ (List.getElem_mem _)).2 hS3 hS4) rfl rfl h.obj rfl (mkRoom rfl rfl) (Nat.le_of_ble_eq_true rfl) (Nat.le_of_ble_eq_true rfl) (Nat.le_of_ble_eq_true rfl) (fun M r hp => ?_)
        obtain ⟨rfl, h, o1⟩ := hp
        have fr := fr.tr (o1.wd (by omega) (by omega))
        have m_s := (o1 _ (by omega)).trans m_s
        refine z_iinc dX7_increase_57 rfl (Nat.le_of_ble_eq_true rfl) ?_
        refine g_goto (tgt := 3) dX7_increase_60 (by decide) ?_
        refine ih2 M fr ?_ _
        show Md M (st + 1) (inc1 _ _ _ _ _)
        unfold inc1
        first
        | (rw [if_pos c36]; exact h)
        | (rw [if_neg (by omega)]; exact h)
  refine z_iconst dX7_increase_0 ?_
  refine g_istore dX7_increase_1 (Nat.le_of_ble_eq_true rfl) ?_
  exact loop (nOrd ord n) 0 M (Nat.zero_le _) (by omega) fr h _
end
section
/-! the class Encoder -/
abbrev es : Type := Int × Int × List Int × Int
def okB (xs : List Int) : Prop := ∀ x ∈ xs, 0 ≤ x ∧ x < 256
theorem okB.get {xs : List Int} (h : okB xs) (i : Nat) : 0 ≤ xs.getD i 0 ∧ xs.getD i 0 < 256 := by
  by_cases hi : i < xs.length
  · rw [List.getD_eq_getElem?_getD, List.getElem?_eq_getElem hi]; exact h _ (List.getElem_mem hi)
  · rw [List.getD_eq_getElem?_getD, List.getElem?_eq_none (by omega)]; simp
theorem okB.set {xs : List Int} (h : okB xs) {i : Nat} {v : Int} (hv : 0 ≤ v ∧ v < 256) : okB (xs.set i v) := fun x hx => by
  rcases List.mem_or_eq_of_mem_set hx with hx | rfl
  · exact h x hx
  · exact hv
theorem okB.snoc {xs : List Int} (h : okB xs) {v : Int} (hv : 0 ≤ v ∧ v < 256) : okB (xs ++ [v]) := fun x hx => by
  rcases List.mem_append.mp hx with hx | hx
  · exact h x hx
  · rw [List.mem_singleton] at hx; subst hx; exact hv
def cryL (ys : List Int) (c : Int) : Nat → List Int × Int
  | 0 => (ys, c)
  | n + 1 => if ys.getD n 0 = 255 then cryL (ys.set n 0) (c + 1) n else (ys.set n (ys.getD n 0 + 1), c + 1)
def cry (ys : List Int) : List Int × Int := cryL ys 0 ys.length
theorem cryL_ok : ∀ (n : Nat) (ys : List Int) (c : Int), okB ys → okB (cryL ys c n).1 ∧ (cryL ys c n).1.length = ys.length ∧ c ≤ (cryL ys c n).2 ∧ (cryL ys c n).2 ≤ c + n
  | 0, ys, c, h => ⟨h, rfl, by simp [cryL], by simp [cryL]⟩
  | n + 1, ys, c, h => by
    rw [cryL]
    have hb := h.get n
    split
    · next he =>
      have h2 := cryL_ok n (ys.set n 0) (c + 1) (h.set (by omega))
      rw [List.length_set] at h2
      exact ⟨h2.1, h2.2.1, by omega, by omega⟩
    · next he => exact ⟨h.set (by omega), by rw [List.length_set], by show c ≤ c + 1; omega, by show c + 1 ≤ c + ((n + 1 : Nat) : Int); omega⟩
def En (M : pM) (en : Nat) (low range : Int) (out : List Int) (lng : Int) : Prop := M en = some (ob 2 [vL low, vL range, .ref (en + 1), vI lng]) ∧ Rw M (en + 1) 4028 out
theorem En.off {M M' : pM} {en lo hi : Nat} {low range : Int} {out : List Int} {lng : Int} (h : En M en low range out lng) (ho : Off M M' lo hi) (hd : en + 3 ≤ lo ∨ hi ≤ en) : En M' en low range out lng := ⟨(ho _ (by omega)).trans h.1, h.2.off ho (by omega)⟩
set_option maxHeartbeats 1000000 in
theorem En_begin {M : pM} {z en : Nat} {low range lng : Int} {out : List Int} (h : En M en low range out lng) : CW I_X2_begin yX2_begin [.ref en] M z (fun M' r => r = none ∧ En M' en 0 4294967296 [] 0 ∧ Off M M' en (en + 3)) := by
  obtain ⟨m_e, hw⟩ := id h
  have m_w := hw.obj
  have hwl := hw.len
  have fr : Off M M en (en + 3) := Off.rf
  refine C.intro (pl := [some (.ref en)]) pn_X2 rfl (fun h => absurd h (by decide)) rfl (Nat.le_of_ble_eq_true rfl) rfl ?_
  refine g_aload_n dX2_begin_0 rfl ?_
  refine z_lconst (a := 0) dX2_begin_1 rfl ?_
  refine z_putf fl_X2_20 dX2_begin_2 m_e rfl (Nat.le_of_ble_eq_true rfl) rfl rfl (fun M m_e o => ?_)
  have fr := fr.one o (by omega)
  have o1 : Off _ M en (en + 1) := fun x hx => o x (by omega)
  have hw := hw.off o1 (by omega)
  have m_w := hw.obj
  refine g_aload_n dX2_begin_5 rfl ?_
  refine z_ldc2 (4294967296) dX2_begin_6 kc_X2_24 rfl ?_
  refine z_putf fl_X2_26 dX2_begin_9 m_e rfl (Nat.le_of_ble_eq_true rfl) rfl rfl (fun M m_e o => ?_)
  have fr := fr.one o (by omega)
  have o1 : Off _ M en (en + 1) := fun x hx => o x (by omega)
  have hw := hw.off o1 (by omega)
  have m_w := hw.obj
  refine g_aload_n dX2_begin_12 rfl ?_
  refine z_getf fl_X2_14 dX2_begin_13 m_e rfl ?_
  refine z_callVV dX2_begin_16 lm_X2_29 lk_X6_clear (Row_clear hw) rfl rfl hw.obj rfl (mkRoom rfl rfl) (Nat.le_of_ble_eq_true rfl) (Nat.le_of_ble_eq_true rfl) (Nat.le_of_ble_eq_true rfl) (fun M r hp => ?_)
  obtain ⟨rfl, hw, o1⟩ := hp
  have m_e := (o1 _ (by omega)).trans m_e
  have m_w := hw.obj
  have fr := fr.tr (o1.wd (by omega) (by omega))
  refine g_aload_n dX2_begin_19 rfl ?_
  refine z_iconst dX2_begin_20 ?_
  refine z_putf fl_X2_32 dX2_begin_21 m_e rfl (Nat.le_of_ble_eq_true rfl) rfl rfl (fun M m_e o => ?_)
  have fr := fr.one o (by omega)
  have o1 : Off _ M en (en + 1) := fun x hx => o x (by omega)
  have hw := hw.off o1 (by omega)
  have m_w := hw.obj
  exact g_return dX2_begin_24 rfl (Nat.le_of_ble_eq_true rfl) (Nat.le_of_ble_eq_true rfl) ⟨rfl, rfl, ⟨m_e, hw⟩, fr⟩
set_option maxHeartbeats 1000000 in
theorem En_carry {M : pM} {z en : Nat} {low range lng : Int} {out : List Int} (h : En M en low range out lng) (hb : okB out) (hg : 0 ≤ lng ∧ lng ≤ 4028) : CW I_X2_carry yX2_carry [.ref en] M z (fun M' r => r = none ∧ En M' en low range (cry out).1 (max lng (cry out).2) ∧ Off M M' en (en + 3)) := by
  obtain ⟨m_e, hw⟩ := id h
  have m_w := hw.obj
  have hwl := hw.len
  have fr : Off M M en (en + 3) := Off.rf
  refine C.intro (pl := [some (.ref en), none, none, none]) pn_X2 rfl (fun h => absurd h (by decide)) rfl (Nat.le_of_ble_eq_true rfl) rfl ?_
  have hcr := cryL_ok out.length out 0 hb
  have tail : ∀ (ys : List Int) (c : Int) (M1 : pM) (K1 K2 : Value), 0 ≤ c ∧ c ≤ 4028 → Off M M1 en (en + 3) → En M1 en low range ys lng → G I_X2_carry 0 0 (fun M' z' r' => z' = z ∧ r' = none ∧ En M' en low range ys (max lng c) ∧ Off M M' en (en + 3)) 0 0 77 [some (.ref en), some (vI c), some K1, some K2] [] M1 z := by
    intro ys c M K1 K2 hc fr h
    obtain ⟨m_e, hw⟩ := id h
    refine g_aload_n dX2_carry_77 rfl ?_
    refine g_aload_n dX2_carry_78 rfl ?_
    refine z_getf fl_X2_32 dX2_carry_79 m_e rfl ?_
    refine g_iload_n dX2_carry_82 rfl ?_
    refine z_max lj_X2_57 dX2_carry_83 ⟨(Nat.le_of_ble_eq_true rfl), (Nat.le_of_ble_eq_true rfl)⟩ (Nat.le_of_ble_eq_true rfl) (Nat.le_of_ble_eq_true rfl) (by omega) (by omega) ?_
    refine z_putf fl_X2_32 dX2_carry_86 m_e rfl (Nat.le_of_ble_eq_true rfl) rfl rfl (fun M m_e o => ?_)
    have fr := fr.one o (by omega)
    have o1 : Off _ M en (en + 1) := fun x hx => o x (by omega)
    have hw := hw.off o1 (by omega)
    exact g_return dX2_carry_89 rfl (Nat.le_of_ble_eq_true rfl) (Nat.le_of_ble_eq_true rfl) ⟨rfl, rfl, ⟨m_e, hw⟩, fr⟩
  have loop : ∀ (n : Nat) (ys : List Int) (c : Int) (M1 : pM), n ≤ ys.length → ys.length ≤ 4028 → okB ys → 0 ≤ c ∧ c + n ≤ 4028 → Off M M1 en (en + 3) → En M1 en low range ys lng → G I_X2_carry 0 0 (fun M' z' r' => z' = z ∧ r' = none ∧ En M' en low range (cryL ys c n).1 (max lng (cryL ys c n).2) ∧ Off M M' en (en + 3)) 0 0 14 [some (.ref en), some (vI c), some (vI 1), some (vI ((n : Int) - 1))] [] M1 z := by
    intro n
    induction n with
    | zero =>
      intro ys c M hn hl hb hc fr h
      refine g_iload_n dX2_carry_14 rfl ?_
      refine z_if_lt (tgt := 77) dX2_carry_15 (by decide) (by omega) (fun c15 => ?_) (fun c15 => absurd c15 (by omega))
      exact tail ys c M _ _ (by omega) fr h
    | succ n ih =>
      intro ys c M hn hl hb hc fr h
      obtain ⟨m_e, hw⟩ := id h
      have m_w := hw.obj
      have hbn := hb.get n
      have e0 : (((n + 1 : Nat) : Int) - 1) = (n : Int) := by omega
      rw [e0, cryL]
      by_cases he : ys.getD n 0 = 255
      · rw [if_pos he]
        have ih2 := fun M2 h1 h2 => ih (ys.set n 0) (c + 1) M2 (by rw [List.length_set]; omega) (by rw [List.length_set]; omega) (hb.set (by omega)) (by omega) h1 h2
        refine g_iload_n dX2_carry_14 rfl ?_
        refine z_if_lt (tgt := 77) dX2_carry_15 (by decide) (by omega) (fun c15 => absurd c15 (by omega)) (fun c15 => ?_)
        refine g_iload_n dX2_carry_18 rfl ?_
        refine z_if_eq (tgt := 77) dX2_carry_19 (by decide) (by omega) (fun c19 => absurd c19 (by omega)) (fun c19 => ?_)
        refine g_aload_n dX2_carry_22 rfl ?_
        refine z_getf fl_X2_14 dX2_carry_23 m_e rfl ?_
        refine g_iload_n dX2_carry_26 rfl ?_
        refine z_callVR dX2_carry_27 lm_X2_49 lk_X6_item (Row_item (j := n) hw (by omega)) rfl rfl hw.obj rfl (mkRoom rfl rfl) (Nat.le_of_ble_eq_true rfl) (Nat.le_of_ble_eq_true rfl) (Nat.le_of_ble_eq_true rfl) ?_
        refine z_sipush dX2_carry_30 (by decide +kernel) ?_
        refine z_icmp_ne (tgt := 40) dX2_carry_33 (by decide) (by omega) (by omega) (fun c33 => absurd c33 (by omega)) (fun c33 => ?_)
        refine z_iconst dX2_carry_36 ?_
        refine g_goto (tgt := 41) dX2_carry_37 (by decide) ?_
        refine g_istore_n dX2_carry_41 rfl (Nat.le_of_ble_eq_true rfl) ?_
        refine g_aload_n dX2_carry_42 rfl ?_
        refine z_getf fl_X2_14 dX2_carry_43 m_e rfl ?_
        refine g_iload_n dX2_carry_46 rfl ?_
        refine g_iload_n dX2_carry_47 rfl ?_
        refine z_if_eq (tgt := 55) dX2_carry_48 (by decide) (by omega) (fun c48 => absurd c48 (by omega)) (fun c48 => ?_)
        refine z_iconst dX2_carry_51 ?_
        refine g_goto (tgt := 65) dX2_carry_52 (by decide) ?_
        refine z_callVV dX2_carry_65 lm_X2_53 lk_X6_put (Row_put (j := n) hw (by omega)) rfl rfl hw.obj rfl (mkRoom rfl rfl) (Nat.le_of_ble_eq_true rfl) (Nat.le_of_ble_eq_true rfl) (Nat.le_of_ble_eq_true rfl) (fun M r hp => ?_)
        obtain ⟨rfl, hw, o1⟩ := hp
        have m_e := (o1 _ (by omega)).trans m_e
        have m_w := hw.obj
        have fr := fr.tr (o1.wd (by omega) (by omega))
        refine z_iinc dX2_carry_68 rfl (Nat.le_of_ble_eq_true rfl) ?_
        refine z_iinc dX2_carry_71 rfl (Nat.le_of_ble_eq_true rfl) ?_
        refine g_goto (tgt := 14) dX2_carry_74 (by decide) ?_
        exact ih2 M fr ⟨m_e, hw⟩
      · rw [if_neg he]
        refine g_iload_n dX2_carry_14 rfl ?_
        refine z_if_lt (tgt := 77) dX2_carry_15 (by decide) (by omega) (fun c15 => absurd c15 (by omega)) (fun c15 => ?_)
        refine g_iload_n dX2_carry_18 rfl ?_
        refine z_if_eq (tgt := 77) dX2_carry_19 (by decide) (by omega) (fun c19 => absurd c19 (by omega)) (fun c19 => ?_)
        refine g_aload_n dX2_carry_22 rfl ?_
        refine z_getf fl_X2_14 dX2_carry_23 m_e rfl ?_
        refine g_iload_n dX2_carry_26 rfl ?_
        refine z_callVR dX2_carry_27 lm_X2_49 lk_X6_item (Row_item (j := n) hw (by omega)) rfl rfl hw.obj rfl (mkRoom rfl rfl) (Nat.le_of_ble_eq_true rfl) (Nat.le_of_ble_eq_true rfl) (Nat.le_of_ble_eq_true rfl) ?_
        refine z_sipush dX2_carry_30 (by decide +kernel) ?_
        refine z_icmp_ne (tgt := 40) dX2_carry_33 (by decide) (by omega) (by omega) (fun c33 => ?_) (fun c33 => absurd c33 (by omega))
        refine z_iconst dX2_carry_40 ?_
        refine g_istore_n dX2_carry_41 rfl (Nat.le_of_ble_eq_true rfl) ?_
        refine g_aload_n dX2_carry_42 rfl ?_
        refine z_getf fl_X2_14 dX2_carry_43 m_e rfl ?_
        refine g_iload_n dX2_carry_46 rfl ?_
        refine g_iload_n dX2_carry_47 rfl ?_
        refine z_if_eq (tgt := 55) dX2_carry_48 (by decide) (by omega) (fun c48 => ?_) (fun c48 => absurd c48 (by omega))
        refine g_aload_n dX2_carry_55 rfl ?_
        refine z_getf fl_X2_14 dX2_carry_56 m_e rfl ?_
        refine g_iload_n dX2_carry_59 rfl ?_
        refine z_callVR dX2_carry_60 lm_X2_49 lk_X6_item (Row_item (j := n) hw (by omega)) rfl rfl hw.obj rfl (mkRoom rfl rfl) (Nat.le_of_ble_eq_true rfl) (Nat.le_of_ble_eq_true rfl) (Nat.le_of_ble_eq_true rfl) ?_
        refine z_iconst dX2_carry_63 ?_
        refine z_iadd dX2_carry_64 ?_
        refine z_callVV dX2_carry_65 lm_X2_53 lk_X6_put (Row_put (j := n) hw (by omega)) rfl rfl hw.obj rfl (mkRoom rfl rfl) (Nat.le_of_ble_eq_true rfl) (Nat.le_of_ble_eq_true rfl) (Nat.le_of_ble_eq_true rfl) (fun M r hp => ?_)
        obtain ⟨rfl, hw, o1⟩ := hp
        have m_e := (o1 _ (by omega)).trans m_e
        have m_w := hw.obj
        have fr := fr.tr (o1.wd (by omega) (by omega))
        refine z_iinc dX2_carry_68 rfl (Nat.le_of_ble_eq_true rfl) ?_
        refine z_iinc dX2_carry_71 rfl (Nat.le_of_ble_eq_true rfl) ?_
        refine g_goto (tgt := 14) dX2_carry_74 (by decide) ?_
        by_cases hn0 : n = 0
        · subst hn0
          refine g_iload_n dX2_carry_14 rfl ?_
          refine z_if_lt (tgt := 77) dX2_carry_15 (by decide) (by omega) (fun c15 => ?_) (fun c15 => absurd c15 (by omega))
          exact tail _ _ M _ _ (by omega) fr ⟨m_e, hw⟩
        · refine g_iload_n dX2_carry_14 rfl ?_
          refine z_if_lt (tgt := 77) dX2_carry_15 (by decide) (by omega) (fun c15 => absurd c15 (by omega)) (fun c15 => ?_)
          refine g_iload_n dX2_carry_18 rfl ?_
          refine z_if_eq (tgt := 77) dX2_carry_19 (by decide) (by omega) (fun c19 => ?_) (fun c19 => absurd c19 (by omega))
          exact tail _ _ M _ _ (by omega) fr ⟨m_e, hw⟩
  refine z_iconst dX2_carry_0 ?_
  refine g_istore_n dX2_carry_1 rfl (Nat.le_of_ble_eq_true rfl) ?_
  refine z_iconst dX2_carry_2 ?_
  refine g_istore_n dX2_carry_3 rfl (Nat.le_of_ble_eq_true rfl) ?_
  refine g_aload_n dX2_carry_4 rfl ?_
  refine z_getf fl_X2_14 dX2_carry_5 m_e rfl ?_
  refine z_getf fl_X2_46 dX2_carry_8 m_w rfl ?_
  refine z_iconst dX2_carry_11 ?_
  refine z_isub dX2_carry_12 ?_
  refine g_istore_n dX2_carry_13 rfl (Nat.le_of_ble_eq_true rfl) ?_
  exact loop out.length out 0 M (Nat.le_refl _) (by omega) hb (by omega) fr h
def lm (low : Int) (z : Nat) : Int := (low + 2 ^ (8 * z) - 1) / 2 ^ (8 * z) * 2 ^ (8 * z)
theorem lm_b {low : Int} (z : Nat) (h : 0 ≤ low ∧ low < 4294967296) (hz : z ≤ 4) : low ≤ lm low z ∧ lm low z < low + 2 ^ (8 * z) ∧ lm low z ≤ 4294967296 ∧ (1 : Int) ≤ 2 ^ (8 * z) ∧ (2 : Int) ^ (8 * z) ≤ 4294967296 := by
  unfold lm
  match z, hz with
  | 0, _ => simp only [Nat.mul_zero, Int.pow_zero]; omega
  | 1, _ => simp only [Nat.mul_one, show (2 : Int) ^ 8 = 256 from rfl]; omega
  | 2, _ => simp only [show 8 * 2 = 16 from rfl, show (2 : Int) ^ 16 = 65536 from rfl]; omega
  | 3, _ => simp only [show 8 * 3 = 24 from rfl, show (2 : Int) ^ 24 = 16777216 from rfl]; omega
  | 4, _ => simp only [show 8 * 4 = 32 from rfl, show (2 : Int) ^ 32 = 4294967296 from rfl]; omega
set_option maxHeartbeats 1000000 in
theorem En_lm {M : pM} {z en k : Nat} {low range lng : Int} {out : List Int} (h : En M en low range out lng) (hl : 0 ≤ low ∧ low < 4294967296) (hk : k ≤ 4) : CR I_X2_leastMultiple yX2_leastMultiple [.ref en, vI (k : Int)] M z (some (vL (lm low k))) := by
  obtain ⟨m_e, hw⟩ := id h
  have hb := lm_b k hl hk
  have e8 : (8 : Int) * (k : Int) = ((8 * k : Nat) : Int) := by omega
  refine C.intro (pl := [some (.ref en), some (vI (k : Int)), none, none]) pn_X2 rfl (fun h => absurd h (by decide)) rfl (Nat.le_of_ble_eq_true rfl) rfl ?_
  refine z_lconst (a := 1) dX2_leastMultiple_0 rfl ?_
  refine z_bipush dX2_leastMultiple_1 (by decide +kernel) ?_
  refine g_iload_n dX2_leastMultiple_3 rfl ?_
  refine z_imul dX2_leastMultiple_4 ?_
  refine g_lshl dX2_leastMultiple_5 ?_
  refine G.top (v' := vL (2 ^ (8 * k))) (by rw [e8, lZ_shl 1 (by omega), Int.one_mul]) ?_
  refine g_lstore_n dX2_leastMultiple_6 rfl (Nat.le_of_ble_eq_true rfl) ?_
  refine g_aload_n dX2_leastMultiple_7 rfl ?_
  refine z_getf fl_X2_20 dX2_leastMultiple_8 m_e rfl ?_
  refine g_lload_n dX2_leastMultiple_11 rfl ?_
  refine z_ladd dX2_leastMultiple_12 ?_
  refine z_lconst (a := 1) dX2_leastMultiple_13 rfl ?_
  refine z_lsub dX2_leastMultiple_14 ?_
  refine g_lload_n dX2_leastMultiple_15 rfl ?_
  refine z_lneg dX2_leastMultiple_16 ?_
  refine g_land dX2_leastMultiple_17 ?_
  refine G.top (v' := vL (lm low k)) (by rw [lZ_mult (by omega) (by omega)]; rfl) ?_
  exact g_lreturn dX2_leastMultiple_18 rfl (Nat.le_of_ble_eq_true rfl) (Nat.le_of_ble_eq_true rfl) ⟨rfl, rfl, rfl⟩
def shf : Nat → Int → Int → List Int → Int × Int × List Int
  | 0, low, range, out => (low, range, out)
  | n + 1, low, range, out => if range ≤ 16777216 then shf n (low % 16777216 * 256) (range * 256) (out ++ [low / 16777216]) else (low, range, out)
def ivr (range : Int) (x : iv) : Int := if x.2.1 < x.2.2 then range / x.2.2 * (x.2.1 - x.1) else range - range / x.2.2 * x.1
/-- an interval is coded -/
def eiv (e : es) (x : iv) : es :=
  let low := e.1 + e.2.1 / x.2.2 * x.1
  let w : Int × List Int × Int := if 4294967296 ≤ low then (low - 4294967296, (cry e.2.2.1).1, max e.2.2.2 (cry e.2.2.1).2) else (low, e.2.2.1, e.2.2.2)
  let r := shf 4 w.1 (ivr e.2.1 x) w.2.1
  (r.1, r.2.1, r.2.2, w.2.2)
def okI (x : iv) : Prop := 0 ≤ x.1 ∧ x.1 < x.2.1 ∧ x.2.1 ≤ x.2.2 ∧ x.2.2 ≤ 65536
theorem ivr_b {range : Int} {x : iv} (hr : 16777216 < range ∧ range ≤ 4294967296) (hx : okI x) : 256 ≤ range / x.2.2 ∧ range / x.2.2 ≤ 4294967296 ∧ 0 ≤ range / x.2.2 * x.1 ∧ 256 ≤ ivr range x ∧ range / x.2.2 * x.1 + ivr range x ≤ range ∧ (x.2.1 < x.2.2 → ivr range x = range / x.2.2 * (x.2.1 - x.1)) ∧ (x.2.2 ≤ x.2.1 → ivr range x = range - range / x.2.2 * x.1) := by
  obtain ⟨h1, h2, h3, h4⟩ := hx
  obtain ⟨a, b, t⟩ := x
  simp only at h1 h2 h3 h4
  have hq : 256 ≤ range / t := by
    rw [Int.le_ediv_iff_mul_le (by omega)]
    omega
  have hq2 : range / t ≤ range := Int.ediv_le_self _ (by omega)
  have hqt : range / t * t ≤ range := Int.ediv_mul_le _ (by omega)
  have hqa : 0 ≤ range / t * a := Int.mul_nonneg (by omega) h1
  have hqba : range / t * (b - a) + range / t * a = range / t * b := by rw [← Int.mul_add]; congr 1; omega
  have hqb : range / t * b ≤ range / t * t := Int.mul_le_mul_of_nonneg_left h3 (by omega)
  have hqg : range / t * 1 ≤ range / t * (b - a) := Int.mul_le_mul_of_nonneg_left (by omega) (by omega)
  unfold ivr
  simp only
  refine ⟨hq, by omega, hqa, ?_, ?_, fun h => by rw [if_pos h], fun h => by rw [if_neg (by omega)]⟩
  · split <;> omega
  · split <;> omega
theorem shf_b : ∀ (n : Nat) {low range : Int} {out : List Int}, 0 ≤ low ∧ low < 4294967296 → 1 ≤ range ∧ range ≤ 4294967296 → okB out → (0 ≤ (shf n low range out).1 ∧ (shf n low range out).1 < 4294967296) ∧ (1 ≤ (shf n low range out).2.1 ∧ (shf n low range out).2.1 ≤ 4294967296) ∧ okB (shf n low range out).2.2 ∧ out.length ≤ (shf n low range out).2.2.length ∧ (shf n low range out).2.2.length ≤ out.length + n
  | 0, low, range, out, hl, hr, hb => ⟨hl, hr, hb, Nat.le_refl _, Nat.le_refl _⟩
  | n + 1, low, range, out, hl, hr, hb => by
    rw [shf]
    split
    · next h =>
      have := shf_b n (low := low % 16777216 * 256) (range := range * 256) (out := out ++ [low / 16777216]) (by omega) (by omega) (hb.snoc (by omega))
      rw [List.length_append, List.length_singleton] at this
      exact ⟨this.1, this.2.1, this.2.2.1, by omega, by omega⟩
    · exact ⟨hl, hr, hb, Nat.le_refl _, by show out.length ≤ out.length + (n + 1); omega⟩
/-- a range of 256 or more is great again behind at most three shifts -/
theorem shf_g {low range : Int} {out : List Int} (hr : 256 ≤ range) : 16777216 < (shf 4 low range out).2.1 := by
  unfold shf
  split
  · unfold shf
    split
    · unfold shf
      split
      · unfold shf
        split
        · dsimp only [shf]; omega
        · dsimp only; omega
      · dsimp only; omega
    · dsimp only; omega
  · dsimp only; omega
/-- what a coder's state keeps to: low, range, bytes, at most n of them, the longest carry -/
def okN (e : es) (n : Nat) : Prop := (0 ≤ e.1 ∧ e.1 < 4294967296) ∧ (16777216 < e.2.1 ∧ e.2.1 ≤ 4294967296) ∧ okB e.2.2.1 ∧ e.2.2.1.length ≤ n ∧ 0 ≤ e.2.2.2 ∧ e.2.2.2 ≤ n
theorem okN_eiv {e : es} {n : Nat} {x : iv} (h : okN e n) (hx : okI x) : okN (eiv e x) (n + 4) := by
  obtain ⟨low, range, out, lng⟩ := e
  obtain ⟨h1, h2, h3, h4, h5, h6⟩ := h
  simp only at h1 h2 h3 h4 h5 h6
  obtain ⟨q1, q2, q3, q4, q5, -⟩ := ivr_b h2 hx
  have hc := cryL_ok out.length out 0 h3
  unfold eiv
  simp only
  split
  · next hh =>
    have hb := shf_b 4 (low := low + range / x.2.2 * x.1 - 4294967296) (range := ivr range x) (out := (cry out).1) (by omega) (by omega) hc.1
    have hg := shf_g (low := low + range / x.2.2 * x.1 - 4294967296) (range := ivr range x) (out := (cry out).1) q4
    have hl : (cry out).1.length = out.length := hc.2.1
    have hm : 0 ≤ (cry out).2 ∧ (cry out).2 ≤ out.length := ⟨hc.2.2.1, by have := hc.2.2.2; unfold cry; omega⟩
    exact ⟨hb.1, ⟨hg, hb.2.1.2⟩, hb.2.2.1, by simp only; omega, by simp only; omega, by simp only; omega⟩
  · next hh =>
    have hb := shf_b 4 (low := low + range / x.2.2 * x.1) (range := ivr range x) (out := out) (by omega) (by omega) h3
    have hg := shf_g (low := low + range / x.2.2 * x.1) (range := ivr range x) (out := out) q4
    exact ⟨hb.1, ⟨hg, hb.2.1.2⟩, hb.2.2.1, by simp only; omega, h5, by simp only; omega⟩
set_option maxHeartbeats 1000000 in
theorem En_interval {M : pM} {z en n : Nat} {low range lng a b t : Int} {out : List Int} (h : En M en low range out lng) (hk : okN (low, range, out, lng) n) (hn : n ≤ 4024) (hx : okI (a, b, t)) : CW I_X2_interval yX2_interval [.ref en, vI a, vI b, vI t] M z (fun M' r => r = none ∧ En M' en (eiv (low, range, out, lng) (a, b, t)).1 (eiv (low, range, out, lng) (a, b, t)).2.1 (eiv (low, range, out, lng) (a, b, t)).2.2.1 (eiv (low, range, out, lng) (a, b, t)).2.2.2 ∧ Off M M' en (en + 3)) := by
  obtain ⟨m_e, hw⟩ := id h
  have m_w := hw.obj
  have hwl := hw.len
  have fr : Off M M en (en + 3) := Off.rf
  obtain ⟨k1, k2, k3, k4, k5, k6⟩ := id hk
  obtain ⟨x1, x2, x3, x4⟩ := id hx
  obtain ⟨q1, q2, q3, q4, q5, q6, q7⟩ := ivr_b k2 hx
  simp only at k1 k2 k3 k4 k5 k6 x1 x2 x3 x4 q1 q2 q3 q4 q5 q6 q7
  have hcr := cryL_ok out.length out 0 k3
  refine C.intro (pl := [some (.ref en), some (vI a), some (vI b), some (vI t), none, none, none]) pn_X2 rfl (fun h => absurd h (by decide)) rfl (Nat.le_of_ble_eq_true rfl) rfl ?_
  have loop : ∀ (j : Nat) (low range lng : Int) (out : List Int) (M1 : pM) (R : Int × Int × List Int), j ≤ 4 → 0 ≤ low ∧ low < 4294967296 → 1 ≤ range ∧ range ≤ 4294967296 → out.length + j ≤ 4028 → En M1 en low range out lng → Off M M1 en (en + 3) → R = shf j low range out → ∀ K : Value, K.category = 2 → G I_X2_interval 0 0 (fun M' z' r' => z' = z ∧ r' = none ∧ En M' en R.1 R.2.1 R.2.2 lng ∧ Off M M' en (en + 3)) 0 0 88 [some (.ref en), some (vI a), some (vI b), some (vI t), some K, none, some (vI (4 - (j : Int)))] [] M1 z := by
    intro j
    induction j with
    | zero =>
      intro low range lng out M R hj hlo hra ho h fr hR K hK
      subst hR
      refine g_iload dX2_interval_88 rfl ?_
      refine z_iconst dX2_interval_90 ?_
      refine z_icmp_ge (tgt := 155) dX2_interval_91 (by decide) (by omega) (by omega) (fun c91 => ?_) (fun c91 => absurd c91 (by omega))
      exact g_return dX2_interval_155 rfl (Nat.le_of_ble_eq_true rfl) (Nat.le_of_ble_eq_true rfl) ⟨rfl, rfl, h, fr⟩
    | succ j ih =>
      intro low range lng out M R hj hlo hra ho h fr hR K hK
      obtain ⟨m_e, hw⟩ := id h
      have m_w := hw.obj
      subst hR
      rw [shf]
      have e4 : (4 : Int) - ((j + 1 : Nat) : Int) + 1 = 4 - (j : Int) := by omega
      have ih2 := fun M2 (h2 : En M2 en (low % 16777216 * 256) (range * 256) (out ++ [low / 16777216]) lng) fr2 (hr : range ≤ 16777216) => ih (low % 16777216 * 256) (range * 256) lng (out ++ [low / 16777216]) M2 _ (by omega) (by omega) (by omega) (by simp; omega) h2 fr2 rfl K hK
      refine g_iload dX2_interval_88 rfl ?_
      refine z_iconst dX2_interval_90 ?_
      refine z_icmp_ge (tgt := 155) dX2_interval_91 (by decide) (by omega) (by omega) (fun c91 => absurd c91 (by omega)) (fun c91 => ?_)
      refine g_aload_n dX2_interval_94 rfl ?_
      refine z_getf fl_X2_26 dX2_interval_95 m_e rfl ?_
      refine z_ldc2 (16777216) dX2_interval_98 kc_X2_39 rfl ?_
      refine z_lcmp dX2_interval_101 (by omega) (by omega) (fun c101 => ?_) (fun c101 => ?_) (fun c101 => ?_)
      · refine z_if_gt (tgt := 155) dX2_interval_102 (by decide) (by decide) (fun _ => ?_) (fun q => absurd q (by decide))
        exact g_return dX2_interval_155 rfl (Nat.le_of_ble_eq_true rfl) (Nat.le_of_ble_eq_true rfl) ⟨rfl, rfl, by rw [if_neg (by omega)]; exact h, fr⟩
      · refine z_if_gt (tgt := 155) dX2_interval_102 (by decide) (by decide) (fun q => absurd q (by decide)) (fun _ => ?_)
        refine g_aload_n dX2_interval_105 rfl ?_
        refine z_getf fl_X2_14 dX2_interval_106 m_e rfl ?_
        refine g_aload_n dX2_interval_109 rfl ?_
        refine z_getf fl_X2_20 dX2_interval_110 m_e rfl ?_
        refine z_ldc2 (16777216) dX2_interval_113 kc_X2_39 rfl ?_
        refine z_ldiv dX2_interval_116 (by omega) (by omega) ?_
        refine z_l2i dX2_interval_117 (by omega) ?_
        refine z_callVV dX2_interval_118 lm_X2_41 lk_X6_push (Row_push hw) rfl rfl hw.obj rfl (mkRoom rfl rfl) (Nat.le_of_ble_eq_true rfl) (Nat.le_of_ble_eq_true rfl) (Nat.le_of_ble_eq_true rfl) (fun M r hp => ?_)
        obtain ⟨rfl, hw, o1⟩ := hp
        rw [if_pos (by omega)] at hw
        have m_e := (o1 _ (by omega)).trans m_e
        have fr := fr.tr (o1.wd (by omega) (by omega))
        refine g_aload_n dX2_interval_121 rfl ?_
        refine g_aload_n dX2_interval_122 rfl ?_
        refine z_getf fl_X2_20 dX2_interval_123 m_e rfl ?_
        refine z_ldc2 (16777216) dX2_interval_126 kc_X2_39 rfl ?_
        refine z_lrem dX2_interval_129 (by omega) (by omega) ?_
        refine z_ldc2 (256) dX2_interval_130 kc_X2_44 rfl ?_
        refine z_lmul dX2_interval_133 ?_
        refine z_putf fl_X2_20 dX2_interval_134 m_e rfl (Nat.le_of_ble_eq_true rfl) rfl rfl (fun M m_e o => ?_)
        have fr := fr.one o (by omega)
        have o1 : Off _ M en (en + 1) := fun x hx => o x (by omega)
        have hw := hw.off o1 (by omega)
        refine g_aload_n dX2_interval_137 rfl ?_
        refine g_aload_n dX2_interval_138 rfl ?_
        refine z_getf fl_X2_26 dX2_interval_139 m_e rfl ?_
        refine z_ldc2 (256) dX2_interval_142 kc_X2_44 rfl ?_
        refine z_lmul dX2_interval_145 ?_
        refine z_putf fl_X2_26 dX2_interval_146 m_e rfl (Nat.le_of_ble_eq_true rfl) rfl rfl (fun M m_e o => ?_)
        have fr := fr.one o (by omega)
        have o1 : Off _ M en (en + 1) := fun x hx => o x (by omega)
        have hw := hw.off o1 (by omega)
        refine z_iinc dX2_interval_149 rfl (Nat.le_of_ble_eq_true rfl) ?_
        refine g_goto (tgt := 88) dX2_interval_152 (by decide) ?_
        rw [if_pos (by omega), e4]
        exact ih2 M ⟨m_e, hw⟩ fr (by omega)
      · refine z_if_gt (tgt := 155) dX2_interval_102 (by decide) (by decide) (fun q => absurd q (by decide)) (fun _ => ?_)
        refine g_aload_n dX2_interval_105 rfl ?_
        refine z_getf fl_X2_14 dX2_interval_106 m_e rfl ?_
        refine g_aload_n dX2_interval_109 rfl ?_
        refine z_getf fl_X2_20 dX2_interval_110 m_e rfl ?_
        refine z_ldc2 (16777216) dX2_interval_113 kc_X2_39 rfl ?_
        refine z_ldiv dX2_interval_116 (by omega) (by omega) ?_
        refine z_l2i dX2_interval_117 (by omega) ?_
        refine z_callVV dX2_interval_118 lm_X2_41 lk_X6_push (Row_push hw) rfl rfl hw.obj rfl (mkRoom rfl rfl) (Nat.le_of_ble_eq_true rfl) (Nat.le_of_ble_eq_true rfl) (Nat.le_of_ble_eq_true rfl) (fun M r hp => ?_)
        obtain ⟨rfl, hw, o1⟩ := hp
        rw [if_pos (by omega)] at hw
        have m_e := (o1 _ (by omega)).trans m_e
        have fr := fr.tr (o1.wd (by omega) (by omega))
        refine g_aload_n dX2_interval_121 rfl ?_
        refine g_aload_n dX2_interval_122 rfl ?_
        refine z_getf fl_X2_20 dX2_interval_123 m_e rfl ?_
        refine z_ldc2 (16777216) dX2_interval_126 kc_X2_39 rfl ?_
        refine z_lrem dX2_interval_129 (by omega) (by omega) ?_
        refine z_ldc2 (256) dX2_interval_130 kc_X2_44 rfl ?_
        refine z_lmul dX2_interval_133 ?_
        refine z_putf fl_X2_20 dX2_interval_134 m_e rfl (Nat.le_of_ble_eq_true rfl) rfl rfl (fun M m_e o => ?_)
        have fr := fr.one o (by omega)
        have o1 : Off _ M en (en + 1) := fun x hx => o x (by omega)
        have hw := hw.off o1 (by omega)
        refine g_aload_n dX2_interval_137 rfl ?_
        refine g_aload_n dX2_interval_138 rfl ?_
        refine z_getf fl_X2_26 dX2_interval_139 m_e rfl ?_
        refine z_ldc2 (256) dX2_interval_142 kc_X2_44 rfl ?_
        refine z_lmul dX2_interval_145 ?_
        refine z_putf fl_X2_26 dX2_interval_146 m_e rfl (Nat.le_of_ble_eq_true rfl) rfl rfl (fun M m_e o => ?_)
        have fr := fr.one o (by omega)
        have o1 : Off _ M en (en + 1) := fun x hx => o x (by omega)
        have hw := hw.off o1 (by omega)
        refine z_iinc dX2_interval_149 rfl (Nat.le_of_ble_eq_true rfl) ?_
        refine g_goto (tgt := 88) dX2_interval_152 (by decide) ?_
        rw [if_pos (by omega), e4]
        exact ih2 M ⟨m_e, hw⟩ fr (by omega)
  have cont : ∀ M1 : pM, En M1 en (low + range / t * a) (ivr range (a, b, t)) out lng → Off M M1 en (en + 3) → ∀ K : Value, K.category = 2 → G I_X2_interval 0 0 (fun M' z' r' => z' = z ∧ r' = none ∧ En M' en (eiv (low, range, out, lng) (a, b, t)).1 (eiv (low, range, out, lng) (a, b, t)).2.1 (eiv (low, range, out, lng) (a, b, t)).2.2.1 (eiv (low, range, out, lng) (a, b, t)).2.2.2 ∧ Off M M' en (en + 3)) 0 0 58 [some (.ref en), some (vI a), some (vI b), some (vI t), some K, none, none] [] M1 z := by
    intro M h fr K hK
    obtain ⟨m_e, hw⟩ := id h
    have m_w := hw.obj
    unfold eiv
    simp only
    refine g_aload_n dX2_interval_58 rfl ?_
    refine z_getf fl_X2_20 dX2_interval_59 m_e rfl ?_
    refine z_ldc2 (4294967296) dX2_interval_62 kc_X2_24 rfl ?_
    refine z_lcmp dX2_interval_65 (by omega) (by omega) (fun c65 => ?_) (fun c65 => ?_) (fun c65 => ?_)
    · refine z_if_lt (tgt := 85) dX2_interval_66 (by decide) (by decide) (fun q => absurd q (by decide)) (fun _ => ?_)
      refine g_aload_n dX2_interval_69 rfl ?_
      refine g_dup dX2_interval_70 rfl ?_
      refine z_getf fl_X2_20 dX2_interval_71 m_e rfl ?_
      refine z_ldc2 (4294967296) dX2_interval_74 kc_X2_24 rfl ?_
      refine z_lsub dX2_interval_77 ?_
      refine z_putf fl_X2_20 dX2_interval_78 m_e rfl (Nat.le_of_ble_eq_true rfl) rfl rfl (fun M m_e o => ?_)
      have fr := fr.one o (by omega)
      have o1 : Off _ M en (en + 1) := fun x hx => o x (by omega)
      have hw := hw.off o1 (by omega)
      refine g_aload_n dX2_interval_81 rfl ?_
      refine z_callVV dX2_interval_82 lm_X2_36 lk_X2_carry (En_carry ⟨m_e, hw⟩ k3 (by omega)) rfl rfl m_e rfl (mkRoom rfl rfl) (Nat.le_of_ble_eq_true rfl) (Nat.le_of_ble_eq_true rfl) (Nat.le_of_ble_eq_true rfl) (fun M r hp => ?_)
      obtain ⟨rfl, h, o1⟩ := hp
      have fr := fr.tr o1
      refine z_iconst dX2_interval_85 ?_
      refine g_istore dX2_interval_86 (Nat.le_of_ble_eq_true rfl) ?_
      rw [if_pos (by omega)]
      exact loop 4 _ _ _ _ M _ (by omega) (by omega) (by omega) (by have : (cry out).1.length = out.length := hcr.2.1; omega) h fr rfl K hK
    · refine z_if_lt (tgt := 85) dX2_interval_66 (by decide) (by decide) (fun q => absurd q (by decide)) (fun _ => ?_)
      refine g_aload_n dX2_interval_69 rfl ?_
      refine g_dup dX2_interval_70 rfl ?_
      refine z_getf fl_X2_20 dX2_interval_71 m_e rfl ?_
      refine z_ldc2 (4294967296) dX2_interval_74 kc_X2_24 rfl ?_
      refine z_lsub dX2_interval_77 ?_
      refine z_putf fl_X2_20 dX2_interval_78 m_e rfl (Nat.le_of_ble_eq_true rfl) rfl rfl (fun M m_e o => ?_)
      have fr := fr.one o (by omega)
      have o1 : Off _ M en (en + 1) := fun x hx => o x (by omega)
      have hw := hw.off o1 (by omega)
      refine g_aload_n dX2_interval_81 rfl ?_
      refine z_callVV dX2_interval_82 lm_X2_36 lk_X2_carry (En_carry ⟨m_e, hw⟩ k3 (by omega)) rfl rfl m_e rfl (mkRoom rfl rfl) (Nat.le_of_ble_eq_true rfl) (Nat.le_of_ble_eq_true rfl) (Nat.le_of_ble_eq_true rfl) (fun M r hp => ?_)
      obtain ⟨rfl, h, o1⟩ := hp
      have fr := fr.tr o1
      refine z_iconst dX2_interval_85 ?_
      refine g_istore dX2_interval_86 (Nat.le_of_ble_eq_true rfl) ?_
      rw [if_pos (by omega)]
      exact loop 4 _ _ _ _ M _ (by omega) (by omega) (by omega) (by have : (cry out).1.length = out.length := hcr.2.1; omega) h fr rfl K hK
    · refine z_if_lt (tgt := 85) dX2_interval_66 (by decide) (by decide) (fun _ => ?_) (fun q => absurd q (by decide))
      refine z_iconst dX2_interval_85 ?_
      refine g_istore dX2_interval_86 (Nat.le_of_ble_eq_true rfl) ?_
      rw [if_neg (by omega)]
      exact loop 4 _ _ _ _ M _ (by omega) (by omega) (by omega) (by omega) h fr rfl K hK
  refine g_iload_n dX2_interval_0 rfl ?_
  refine z_iconst dX2_interval_1 ?_
  refine z_icmp_ge (tgt := 6) dX2_interval_2 (by decide) (by omega) (by omega) (fun c2 => ?_) (fun c2 => absurd c2 (by omega))
  refine g_aload_n dX2_interval_6 rfl ?_
  refine z_getf fl_X2_26 dX2_interval_7 m_e rfl ?_
  refine g_iload_n dX2_interval_10 rfl ?_
  refine z_i2l dX2_interval_11 (by omega) ?_
  refine z_ldiv dX2_interval_12 (by omega) (by omega) ?_
  refine g_lstore dX2_interval_13 (Nat.le_of_ble_eq_true rfl) ?_
  refine g_aload_n dX2_interval_15 rfl ?_
  refine g_dup dX2_interval_16 rfl ?_
  refine z_getf fl_X2_20 dX2_interval_17 m_e rfl ?_
  refine g_lload dX2_interval_20 rfl ?_
  refine g_iload_n dX2_interval_22 rfl ?_
  refine z_i2l dX2_interval_23 (by omega) ?_
  refine z_lmul dX2_interval_24 ?_
  refine z_ladd dX2_interval_25 ?_
  refine z_putf fl_X2_20 dX2_interval_26 m_e rfl (Nat.le_of_ble_eq_true rfl) rfl rfl (fun M m_e o => ?_)
  have fr := fr.one o (by omega)
  have o1 : Off _ M en (en + 1) := fun x hx => o x (by omega)
  have hw := hw.off o1 (by omega)
  refine g_aload_n dX2_interval_29 rfl ?_
  refine g_iload_n dX2_interval_30 rfl ?_
  refine g_iload_n dX2_interval_31 rfl ?_
  refine z_icmp_ge (tgt := 45) dX2_interval_32 (by decide) (by omega) (by omega) (fun c32 => ?_) (fun c32 => ?_)
  · refine g_aload_n dX2_interval_45 rfl ?_
    refine z_getf fl_X2_26 dX2_interval_46 m_e rfl ?_
    refine g_lload dX2_interval_49 rfl ?_
    refine g_iload_n dX2_interval_51 rfl ?_
    refine z_i2l dX2_interval_52 (by omega) ?_
    refine z_lmul dX2_interval_53 ?_
    refine z_lsub dX2_interval_54 ?_
    refine z_putf fl_X2_26 dX2_interval_55 m_e rfl (Nat.le_of_ble_eq_true rfl) rfl rfl (fun M m_e o => ?_)
    have fr := fr.one o (by omega)
    have o1 : Off _ M en (en + 1) := fun x hx => o x (by omega)
    have hw := hw.off o1 (by omega)
    have h2 : En M en (low + range / t * a) (ivr range (a, b, t)) out lng := ⟨by first | (rw [q6 c32]; exact m_e) | (rw [q7 c32]; exact m_e), hw⟩
    exact cont M h2 fr _ rfl
  · refine g_lload dX2_interval_35 rfl ?_
    refine g_iload_n dX2_interval_37 rfl ?_
    refine g_iload_n dX2_interval_38 rfl ?_
    refine z_isub dX2_interval_39 ?_
    refine z_i2l dX2_interval_40 (by omega) ?_
    refine z_lmul dX2_interval_41 ?_
    refine g_goto (tgt := 55) dX2_interval_42 (by decide) ?_
    refine z_putf fl_X2_26 dX2_interval_55 m_e rfl (Nat.le_of_ble_eq_true rfl) rfl rfl (fun M m_e o => ?_)
    have fr := fr.one o (by omega)
    have o1 : Off _ M en (en + 1) := fun x hx => o x (by omega)
    have hw := hw.off o1 (by omega)
    have h2 : En M en (low + range / t * a) (ivr range (a, b, t)) out lng := ⟨by first | (rw [q6 c32]; exact m_e) | (rw [q7 c32]; exact m_e), hw⟩
    exact cont M h2 fr _ rfl
end
section
/-! the encoder's end; the class Decoder -/
def zf (low range : Int) : Nat → Nat
  | 0 => 0
  | z + 1 => if low + range ≤ lm low (z + 1) then zf low range z else z + 1
theorem zf_le (low range : Int) : ∀ n : Nat, zf low range n ≤ n
  | 0 => Nat.le_refl _
  | n + 1 => by
    rw [zf]
    split
    · have := zf_le low range n; omega
    · exact Nat.le_refl _
def byt (v : Int) (n : Nat) : List Int := (List.range n).map (fun i => v / 2 ^ (24 - 8 * i) % 256)
theorem byt_s (v : Int) (n : Nat) : byt v (n + 1) = byt v n ++ [v / 2 ^ (24 - 8 * n) % 256] := by unfold byt; rw [List.range_succ, List.map_append]; rfl
theorem byt_len (v : Int) (n : Nat) : (byt v n).length = n := by simp [byt]
theorem byt_ok (v : Int) (n : Nat) : okB (byt v n) := fun x hx => by
  obtain ⟨i, -, rfl⟩ := List.mem_map.mp hx
  omega
def strip (ys : List Int) : List Int := (ys.reverse.dropWhile (fun x => decide (x = 0))).reverse
theorem strip_0 (ys : List Int) : strip (ys ++ [0]) = strip ys := by simp [strip]
theorem strip_n (ys : List Int) {x : Int} (h : x ≠ 0) : strip (ys ++ [x]) = ys ++ [x] := by simp [strip, h]
theorem strip_len (ys : List Int) : (strip ys).length ≤ ys.length := by
  unfold strip
  rw [List.length_reverse]
  have := (List.dropWhile_suffix (l := ys.reverse) (fun x => decide (x = 0))).length_le
  simpa using this
theorem strip_mem {ys : List Int} {x : Int} (h : x ∈ strip ys) : x ∈ ys := by
  unfold strip at h
  rw [List.mem_reverse] at h
  have := (List.dropWhile_suffix (l := ys.reverse) (fun x => decide (x = 0))).subset h
  simpa using this
theorem snoc_of {ys : List Int} {n : Nat} (h : ys.length = n + 1) : ys = ys.take n ++ [ys.getD n 0] := by
  conv => lhs; rw [← List.take_length (l := ys), h, List.take_succ, List.getElem?_eq_getElem (by omega)]
  rw [List.getD_eq_getElem?_getD, List.getElem?_eq_getElem (by omega)]
  rfl
/-- the end of a code -/
def efin (e : es) : es :=
  let z := zf e.1 e.2.1 4
  let v := lm e.1 z
  let w : List Int × Int × Int := if 4294967296 ≤ v then ((cry e.2.2.1).1, max e.2.2.2 (cry e.2.2.1).2, 0) else (e.2.2.1, e.2.2.2, v)
  (e.1, e.2.1, strip (w.1 ++ byt w.2.2 (4 - z)), w.2.1)
set_option maxHeartbeats 1000000 in
theorem En_finish {M : pM} {z en n : Nat} {low range lng : Int} {out : List Int} (h : En M en low range out lng) (hk : okN (low, range, out, lng) n) (hn : n ≤ 4024) : CW I_X2_finish yX2_finish [.ref en] M z (fun M' r => r = none ∧ En M' en low range (efin (low, range, out, lng)).2.2.1 (efin (low, range, out, lng)).2.2.2 ∧ Off M M' en (en + 3)) := by
  obtain ⟨m_e, hw⟩ := id h
  have m_w := hw.obj
  have hwl := hw.len
  have fr : Off M M en (en + 3) := Off.rf
  obtain ⟨k1, k2, k3, k4, k5, k6⟩ := id hk
  simp only at k1 k2 k3 k4 k5 k6
  have hcr := cryL_ok out.length out 0 k3
  refine C.intro (pl := [some (.ref en), none, none, none, none]) pn_X2 rfl (fun h => absurd h (by decide)) rfl (Nat.le_of_ble_eq_true rfl) rfl ?_
  have strp : ∀ (j : Nat) (ys : List Int) (lng : Int) (M1 : pM) (K1 K2 : Value), ys.length = j → j ≤ 4028 → okB ys → En M1 en low range ys lng → Off M M1 en (en + 3) → K2.category = 2 → G I_X2_finish 0 0 (fun M' z' r' => z' = z ∧ r' = none ∧ En M' en low range (strip ys) lng ∧ Off M M' en (en + 3)) 0 0 100 [some (.ref en), some K1, some K2, none, some (vI ((j : Int) - 1))] [] M1 z := by
    intro j
    induction j with
    | zero =>
      intro ys lng M K1 K2 hl hj hb h fr hK
      have e : ys = [] := List.eq_nil_of_length_eq_zero hl
      subst e
      refine g_iload dX2_finish_100 rfl ?_
      refine z_if_lt (tgt := 131) dX2_finish_102 (by decide) (by omega) (fun c102 => ?_) (fun c102 => absurd c102 (by omega))
      exact g_return dX2_finish_131 rfl (Nat.le_of_ble_eq_true rfl) (Nat.le_of_ble_eq_true rfl) ⟨rfl, rfl, h, fr⟩
    | succ j ih =>
      intro ys lng M K1 K2 hl hj hb h fr hK
      obtain ⟨m_e, hw⟩ := id h
      have m_w := hw.obj
      have hbj := hb.get j
      have hs := snoc_of hl
      have e0 : (((j + 1 : Nat) : Int) - 1) = (j : Int) := by omega
      rw [e0]
      have hz : ys.getD j 0 = 0 → strip ys = strip (ys.take j) := fun q => by rw [q] at hs; rw [hs, strip_0, ← hs]
      have hnz : ys.getD j 0 ≠ 0 → strip ys = ys := fun q => by rw [hs, strip_n _ q, ← hs]
      have ih2 := fun M2 h2 fr2 => ih (ys.take j) lng M2 K1 K2 (by rw [List.length_take]; omega) (by omega) (fun x hx => hb x (List.mem_of_mem_take hx)) h2 fr2 hK
      refine g_iload dX2_finish_100 rfl ?_
      refine z_if_lt (tgt := 131) dX2_finish_102 (by decide) (by omega) (fun c102 => absurd c102 (by omega)) (fun c102 => ?_)
      refine g_aload_n dX2_finish_105 rfl ?_
      refine z_getf fl_X2_14 dX2_finish_106 m_e rfl ?_
      refine g_iload dX2_finish_109 rfl ?_
      refine z_callVR dX2_finish_111 lm_X2_49 lk_X6_item (Row_item (j := j) hw (by omega)) rfl rfl hw.obj rfl (mkRoom rfl rfl) (Nat.le_of_ble_eq_true rfl) (Nat.le_of_ble_eq_true rfl) (Nat.le_of_ble_eq_true rfl) ?_
      refine z_if_ne (tgt := 131) dX2_finish_114 (by decide) (by omega) (fun c114 => ?_) (fun c114 => ?_)
      · exact g_return dX2_finish_131 rfl (Nat.le_of_ble_eq_true rfl) (Nat.le_of_ble_eq_true rfl) ⟨rfl, rfl, by rw [hnz c114]; exact h, fr⟩
      · refine g_aload_n dX2_finish_117 rfl ?_
        refine z_getf fl_X2_14 dX2_finish_118 m_e rfl ?_
        refine z_iconst dX2_finish_121 ?_
        refine z_callVV dX2_finish_122 lm_X2_69 lk_X6_drop (Row_drop (j := 1) hw (by omega)) rfl rfl hw.obj rfl (mkRoom rfl rfl) (Nat.le_of_ble_eq_true rfl) (Nat.le_of_ble_eq_true rfl) (Nat.le_of_ble_eq_true rfl) (fun M r hp => ?_)
        obtain ⟨rfl, hw, o1⟩ := hp
        rw [show ys.length - 1 = j by omega] at hw
        have m_e := (o1 _ (by omega)).trans m_e
        have m_w := hw.obj
        have fr := fr.tr (o1.wd (by omega) (by omega))
        refine z_iinc dX2_finish_125 rfl (Nat.le_of_ble_eq_true rfl) ?_
        refine g_goto (tgt := 100) dX2_finish_128 (by decide) ?_
        rw [hz c114]
        exact ih2 M ⟨m_e, hw⟩ fr
  have app : ∀ (j k : Nat) (ys : List Int) (lng v : Int) (M1 : pM) (zz : Nat), zz ≤ 4 → k ≤ 4 - zz → 4 - zz - k = j → 0 ≤ v ∧ v ≤ 4294967296 → ys.length ≤ 4024 → okB ys → En M1 en low range (ys ++ byt v k) lng → Off M M1 en (en + 3) → G I_X2_finish 0 0 (fun M' z' r' => z' = z ∧ r' = none ∧ En M' en low range (strip (ys ++ byt v (4 - zz))) lng ∧ Off M M' en (en + 3)) 0 0 53 [some (.ref en), some (vI (zz : Int)), some (vL v), none, some (vI (k : Int))] [] M1 z := by
    intro j
    induction j with
    | zero =>
      intro k ys lng v M zz hzz hk hj hv hl hb h fr
      have ek : k = 4 - zz := by omega
      subst ek
      obtain ⟨m_e, hw⟩ := id h
      have m_w := hw.obj
      have hlen : (ys ++ byt v (4 - zz)).length = ys.length + (4 - zz) := by rw [List.length_append, byt_len]
      have hok : okB (ys ++ byt v (4 - zz)) := fun x hx => (List.mem_append.mp hx).elim (hb x) (byt_ok v _ x)
      refine g_iload dX2_finish_53 rfl ?_
      refine z_iconst dX2_finish_55 ?_
      refine g_iload_n dX2_finish_56 rfl ?_
      refine z_isub dX2_finish_57 ?_
      refine z_icmp_ge (tgt := 89) dX2_finish_58 (by decide) (by omega) (by omega) (fun c58 => ?_) (fun c58 => absurd c58 (by omega))
      refine g_aload_n dX2_finish_89 rfl ?_
      refine z_getf fl_X2_14 dX2_finish_90 m_e rfl ?_
      refine z_getf fl_X2_46 dX2_finish_93 m_w rfl ?_
      refine z_iconst dX2_finish_96 ?_
      refine z_isub dX2_finish_97 ?_
      refine g_istore dX2_finish_98 (Nat.le_of_ble_eq_true rfl) ?_
      exact strp _ _ lng M _ _ rfl (by omega) hok h fr rfl
    | succ j ih =>
      intro k ys lng v M zz hzz hk hj hv hl hb h fr
      obtain ⟨m_e, hw⟩ := id h
      have m_w := hw.obj
      have hlen : (ys ++ byt v k).length = ys.length + k := by rw [List.length_append, byt_len]
      have e24 : (24 : Int) - 8 * (k : Int) = ((24 - 8 * k : Nat) : Int) := by omega
      have hdv : 0 ≤ v / 2 ^ (24 - 8 * k) := Int.ediv_nonneg hv.1 (Int.le_of_lt (Int.pow_pos (by decide)))
      have ih2 := fun M2 h2 fr2 => ih (k + 1) ys lng v M2 zz hzz (by omega) (by omega) hv hl hb h2 fr2
      rw [byt_s, ← List.append_assoc] at ih2
      refine g_iload dX2_finish_53 rfl ?_
      refine z_iconst dX2_finish_55 ?_
      refine g_iload_n dX2_finish_56 rfl ?_
      refine z_isub dX2_finish_57 ?_
      refine z_icmp_ge (tgt := 89) dX2_finish_58 (by decide) (by omega) (by omega) (fun c58 => absurd c58 (by omega)) (fun c58 => ?_)
      refine g_aload_n dX2_finish_61 rfl ?_
      refine z_getf fl_X2_14 dX2_finish_62 m_e rfl ?_
      refine g_lload_n dX2_finish_65 rfl ?_
      refine z_bipush dX2_finish_66 (by decide +kernel) ?_
      refine z_bipush dX2_finish_68 (by decide +kernel) ?_
      refine g_iload dX2_finish_70 rfl ?_
      refine z_imul dX2_finish_72 ?_
      refine z_isub dX2_finish_73 ?_
      refine g_lshr dX2_finish_74 ?_
      refine G.top (v' := vL (v / 2 ^ (24 - 8 * k))) (by rw [e24, lZ_shr (by omega) (by omega)]) ?_
      refine z_ldc2 (255) dX2_finish_75 kc_X2_67 rfl ?_
      refine g_land dX2_finish_78 ?_
      refine G.top (v' := vL (v / 2 ^ (24 - 8 * k) % 256)) (by rw [lZ_and255 hdv]) ?_
      refine z_l2i dX2_finish_79 (by omega) ?_
      refine z_callVV dX2_finish_80 lm_X2_41 lk_X6_push (Row_push hw) rfl rfl hw.obj rfl (mkRoom rfl rfl) (Nat.le_of_ble_eq_true rfl) (Nat.le_of_ble_eq_true rfl) (Nat.le_of_ble_eq_true rfl) (fun M r hp => ?_)
      obtain ⟨rfl, hw, o1⟩ := hp
      rw [if_pos (by omega)] at hw
      have m_e := (o1 _ (by omega)).trans m_e
      have m_w := hw.obj
      have fr := fr.tr (o1.wd (by omega) (by omega))
      refine z_iinc dX2_finish_83 rfl (Nat.le_of_ble_eq_true rfl) ?_
      refine g_goto (tgt := 53) dX2_finish_86 (by decide) ?_
      exact ih2 M ⟨m_e, hw⟩ fr
  have tail : ∀ zz : Nat, zz = zf low range 4 → zz ≤ 4 → G I_X2_finish 0 0 (fun M' z' r' => z' = z ∧ r' = none ∧ En M' en low range (efin (low, range, out, lng)).2.2.1 (efin (low, range, out, lng)).2.2.2 ∧ Off M M' en (en + 3)) 0 0 30 [some (.ref en), some (vI (zz : Int)), none, none, none] [] M z := by
    intro zz hz hz4
    have hlb := lm_b zz k1 hz4
    unfold efin
    dsimp only
    rw [← hz]
    refine g_aload_n dX2_finish_30 rfl ?_
    refine g_iload_n dX2_finish_31 rfl ?_
    refine z_callVR dX2_finish_32 lm_X2_63 lk_X2_leastMultiple (En_lm (k := zz) h k1 hz4) rfl rfl m_e rfl (mkRoom rfl rfl) (Nat.le_of_ble_eq_true rfl) (Nat.le_of_ble_eq_true rfl) (Nat.le_of_ble_eq_true rfl) ?_
    refine g_lstore_n dX2_finish_35 rfl (Nat.le_of_ble_eq_true rfl) ?_
    refine g_lload_n dX2_finish_36 rfl ?_
    refine z_ldc2 (4294967296) dX2_finish_37 kc_X2_24 rfl ?_
    refine z_lcmp dX2_finish_40 (by omega) (by omega) (fun c40 => ?_) (fun c40 => ?_) (fun c40 => ?_)
    · refine z_if_lt (tgt := 50) dX2_finish_41 (by decide) (by decide) (fun q => absurd q (by decide)) (fun _ => ?_)
      refine g_aload_n dX2_finish_44 rfl ?_
      refine z_callVV dX2_finish_45 lm_X2_36 lk_X2_carry (En_carry h k3 (by omega)) rfl rfl m_e rfl (mkRoom rfl rfl) (Nat.le_of_ble_eq_true rfl) (Nat.le_of_ble_eq_true rfl) (Nat.le_of_ble_eq_true rfl) (fun M r hp => ?_)
      obtain ⟨rfl, h, o1⟩ := hp
      have fr := fr.tr o1
      refine z_lconst (a := 0) dX2_finish_48 rfl ?_
      refine g_lstore_n dX2_finish_49 rfl (Nat.le_of_ble_eq_true rfl) ?_
      refine z_iconst dX2_finish_50 ?_
      refine g_istore dX2_finish_51 (Nat.le_of_ble_eq_true rfl) ?_
      rw [if_pos (by omega)]
      exact app (4 - zz) 0 (cry out).1 (max lng (cry out).2) 0 M zz hz4 (by omega) (by omega) (by omega) (by have : (cry out).1.length = out.length := hcr.2.1; omega) hcr.1 (by rw [show byt 0 0 = [] from rfl, List.append_nil]; exact h) fr
    · refine z_if_lt (tgt := 50) dX2_finish_41 (by decide) (by decide) (fun q => absurd q (by decide)) (fun _ => ?_)
      refine g_aload_n dX2_finish_44 rfl ?_
      refine z_callVV dX2_finish_45 lm_X2_36 lk_X2_carry (En_carry h k3 (by omega)) rfl rfl m_e rfl (mkRoom rfl rfl) (Nat.le_of_ble_eq_true rfl) (Nat.le_of_ble_eq_true rfl) (Nat.le_of_ble_eq_true rfl) (fun M r hp => ?_)
      obtain ⟨rfl, h, o1⟩ := hp
      have fr := fr.tr o1
      refine z_lconst (a := 0) dX2_finish_48 rfl ?_
      refine g_lstore_n dX2_finish_49 rfl (Nat.le_of_ble_eq_true rfl) ?_
      refine z_iconst dX2_finish_50 ?_
      refine g_istore dX2_finish_51 (Nat.le_of_ble_eq_true rfl) ?_
      rw [if_pos (by omega)]
      exact app (4 - zz) 0 (cry out).1 (max lng (cry out).2) 0 M zz hz4 (by omega) (by omega) (by omega) (by have : (cry out).1.length = out.length := hcr.2.1; omega) hcr.1 (by rw [show byt 0 0 = [] from rfl, List.append_nil]; exact h) fr
    · refine z_if_lt (tgt := 50) dX2_finish_41 (by decide) (by decide) (fun _ => ?_) (fun q => absurd q (by decide))
      refine z_iconst dX2_finish_50 ?_
      refine g_istore dX2_finish_51 (Nat.le_of_ble_eq_true rfl) ?_
      rw [if_neg (by omega)]
      exact app (4 - zz) 0 out lng (lm low zz) M zz hz4 (by omega) (by omega) (by omega) (by omega) k3 (by rw [show byt (lm low zz) 0 = [] from rfl, List.append_nil]; exact h) fr
  have zloop : ∀ zz : Nat, zz ≤ 4 → zf low range 4 = zf low range zz → G I_X2_finish 0 0 (fun M' z' r' => z' = z ∧ r' = none ∧ En M' en low range (efin (low, range, out, lng)).2.2.1 (efin (low, range, out, lng)).2.2.2 ∧ Off M M' en (en + 3)) 0 0 2 [some (.ref en), some (vI (zz : Int)), none, none, none] [] M z := by
    intro zz
    induction zz with
    | zero =>
      intro hz4 hz
      refine g_iload_n dX2_finish_2 rfl ?_
      refine z_if_le (tgt := 30) dX2_finish_3 (by decide) (by omega) (fun c3 => ?_) (fun c3 => absurd c3 (by omega))
      exact tail 0 hz.symm (by omega)
    | succ zz ih =>
      intro hz4 hz
      have hlb := lm_b (zz + 1) k1 hz4
      have hz' : zf low range (zz + 1) = if low + range ≤ lm low (zz + 1) then zf low range zz else zz + 1 := rfl
      rw [hz'] at hz
      refine g_iload_n dX2_finish_2 rfl ?_
      refine z_if_le (tgt := 30) dX2_finish_3 (by decide) (by omega) (fun c3 => absurd c3 (by omega)) (fun c3 => ?_)
      refine g_aload_n dX2_finish_6 rfl ?_
      refine g_iload_n dX2_finish_7 rfl ?_
      refine z_callVR dX2_finish_8 lm_X2_63 lk_X2_leastMultiple (En_lm (k := zz + 1) h k1 hz4) rfl rfl m_e rfl (mkRoom rfl rfl) (Nat.le_of_ble_eq_true rfl) (Nat.le_of_ble_eq_true rfl) (Nat.le_of_ble_eq_true rfl) ?_
      refine g_aload_n dX2_finish_11 rfl ?_
      refine z_getf fl_X2_20 dX2_finish_12 m_e rfl ?_
      refine g_aload_n dX2_finish_15 rfl ?_
      refine z_getf fl_X2_26 dX2_finish_16 m_e rfl ?_
      refine z_ladd dX2_finish_19 ?_
      refine z_lcmp dX2_finish_20 (by omega) (by omega) (fun c20 => ?_) (fun c20 => ?_) (fun c20 => ?_)
      · refine z_if_lt (tgt := 30) dX2_finish_21 (by decide) (by decide) (fun q => absurd q (by decide)) (fun _ => ?_)
        refine z_iinc dX2_finish_24 rfl (Nat.le_of_ble_eq_true rfl) ?_
        refine g_goto (tgt := 2) dX2_finish_27 (by decide) ?_
        rw [if_pos (by omega)] at hz
        rw [show (((zz + 1 : Nat) : Int) + -1) = (zz : Int) by omega]
        exact ih (by omega) hz
      · refine z_if_lt (tgt := 30) dX2_finish_21 (by decide) (by decide) (fun q => absurd q (by decide)) (fun _ => ?_)
        refine z_iinc dX2_finish_24 rfl (Nat.le_of_ble_eq_true rfl) ?_
        refine g_goto (tgt := 2) dX2_finish_27 (by decide) ?_
        rw [if_pos (by omega)] at hz
        rw [show (((zz + 1 : Nat) : Int) + -1) = (zz : Int) by omega]
        exact ih (by omega) hz
      · refine z_if_lt (tgt := 30) dX2_finish_21 (by decide) (by decide) (fun _ => ?_) (fun q => absurd q (by decide))
        rw [if_neg (by omega)] at hz
        exact tail (zz + 1) hz.symm hz4
  refine z_iconst dX2_finish_0 ?_
  refine g_istore_n dX2_finish_1 rfl (Nat.le_of_ble_eq_true rfl) ?_
  exact zloop 4 (by omega) rfl
/-- a decoder's state: the next byte's place, the distance, the range -/
abbrev ds : Type := Nat × Int × Int
def De (M : pM) (de cd : Nat) (d : ds) : Prop := M de = some (ob 1 [.ref cd, vI d.1, vL d.2.1, vL d.2.2])
theorem De.off {M M' : pM} {de cd lo hi : Nat} {d : ds} (h : De M de cd d) (ho : Off M M' lo hi) (hd : de + 1 ≤ lo ∨ hi ≤ de) : De M' de cd d := (ho _ (by omega)).trans h
def sh1 (cs : List Int) (d : ds) : ds := (d.1 + 1, (d.2.1 * 256 + cs.getD d.1 0) % 4294967296, d.2.2)
def dbeg (cs : List Int) : ds := ((sh1 cs (sh1 cs (sh1 cs (sh1 cs (0, 0, 0))))).1, (sh1 cs (sh1 cs (sh1 cs (sh1 cs (0, 0, 0))))).2.1, 4294967296)
def dnum (d : ds) (t : Int) : Int := min (t - 1) (d.2.1 / (d.2.2 / t))
def dsf (cs : List Int) : Nat → ds → ds
  | 0, d => d
  | n + 1, d => if d.2.2 ≤ 16777216 then dsf cs n ((sh1 cs d).1, (sh1 cs d).2.1, d.2.2 * 256) else d
def div_ (cs : List Int) (d : ds) (x : iv) : ds := dsf cs 4 (d.1, d.2.1 - d.2.2 / x.2.2 * x.1, ivr d.2.2 x)
def okD (d : ds) (n : Nat) : Prop := d.1 ≤ n ∧ (0 ≤ d.2.1 ∧ d.2.1 < d.2.2) ∧ (16777216 < d.2.2 ∧ d.2.2 ≤ 4294967296)
set_option maxHeartbeats 1000000 in
theorem De_shift {M : pM} {z de cd N nx : Nat} {di : Int} {w3 : Value} {cs : List Int} (m_d : M de = some (ob 1 [.ref cd, vI nx, vL di, w3])) (hc : Rw M cd N cs) (hb : okB cs) (hcd : cd + 2 ≤ de ∨ de < cd) (hn : nx < 1000000) (h0 : 0 ≤ di ∧ di ≤ 4294967296) : CW I_X1_shift yX1_shift [.ref de] M z (fun M' r => r = none ∧ M' de = some (ob 1 [.ref cd, vI ((nx + 1 : Nat) : Int), vL ((di * 256 + cs.getD nx 0) % 4294967296), w3]) ∧ Off M M' de (de + 1)) := by
  have fr : Off M M de (de + 1) := Off.rf
  have hbg := hb.get nx
  refine C.intro (pl := [some (.ref de), none]) pn_X1 rfl (fun h => absurd h (by decide)) rfl (Nat.le_of_ble_eq_true rfl) rfl ?_
  refine g_aload_n dX1_shift_0 rfl ?_
  refine z_getf fl_X1_9 dX1_shift_1 m_d rfl ?_
  refine g_ifnonnull (tgt := 11) dX1_shift_4 (by decide) ?_
  refine g_aload_n dX1_shift_11 rfl ?_
  refine z_getf fl_X1_9 dX1_shift_12 m_d rfl ?_
  refine g_aload_n dX1_shift_15 rfl ?_
  refine z_getf fl_X1_15 dX1_shift_16 m_d rfl ?_
  refine z_callVR dX1_shift_19 lm_X1_31 lk_X6_item (Row_item (j := nx) hc (by omega)) rfl rfl hc.obj rfl (mkRoom rfl rfl) (Nat.le_of_ble_eq_true rfl) (Nat.le_of_ble_eq_true rfl) (Nat.le_of_ble_eq_true rfl) ?_
  refine g_istore_n dX1_shift_22 rfl (Nat.le_of_ble_eq_true rfl) ?_
  refine g_aload_n dX1_shift_23 rfl ?_
  refine g_aload_n dX1_shift_24 rfl ?_
  refine z_getf fl_X1_19 dX1_shift_25 m_d rfl ?_
  refine z_ldc2 (256) dX1_shift_28 kc_X1_37 rfl ?_
  refine z_lmul dX1_shift_31 ?_
  refine g_iload_n dX1_shift_32 rfl ?_
  refine z_i2l dX1_shift_33 (by omega) ?_
  refine z_ladd dX1_shift_34 ?_
  refine z_ldc2 (4294967296) dX1_shift_35 kc_X1_26 rfl ?_
  refine z_lrem dX1_shift_38 (by omega) (by omega) ?_
  refine z_putf fl_X1_19 dX1_shift_39 m_d rfl (Nat.le_of_ble_eq_true rfl) rfl rfl (fun M m_d o => ?_)
  have fr := fr.one o (by omega)
  have o1 : Off _ M de (de + 1) := fun x hx => o x (by omega)
  have hc := hc.off o1 (by omega)
  refine g_aload_n dX1_shift_42 rfl ?_
  refine g_dup dX1_shift_43 rfl ?_
  refine z_getf fl_X1_15 dX1_shift_44 m_d rfl ?_
  refine z_iconst dX1_shift_47 ?_
  refine z_iadd dX1_shift_48 ?_
  refine z_putf fl_X1_15 dX1_shift_49 m_d rfl (Nat.le_of_ble_eq_true rfl) rfl rfl (fun M m_d o => ?_)
  have fr := fr.one o (by omega)
  have o1 : Off _ M de (de + 1) := fun x hx => o x (by omega)
  have hc := hc.off o1 (by omega)
  exact g_return dX1_shift_52 rfl (Nat.le_of_ble_eq_true rfl) (Nat.le_of_ble_eq_true rfl) ⟨rfl, rfl, m_d, fr⟩
set_option maxHeartbeats 1000000 in
theorem De_begin {M : pM} {z de cd N : Nat} {cs : List Int} {w0 w1 w2 w3 : Value} (m_d : M de = some (ob 1 [w0, w1, w2, w3])) (hc : Rw M cd N cs) (hb : okB cs) (hcd : cd + 2 ≤ de ∨ de < cd) : CW I_X1_begin yX1_begin [.ref de, .ref cd] M z (fun M' r => r = none ∧ De M' de cd (dbeg cs) ∧ Off M M' de (de + 1)) := by
  have fr : Off M M de (de + 1) := Off.rf
  refine C.intro (pl := [some (.ref de), some (.ref cd), none]) pn_X1 rfl (fun h => absurd h (by decide)) rfl (Nat.le_of_ble_eq_true rfl) rfl ?_
  refine g_aload_n dX1_begin_0 rfl ?_
  refine g_aload_n dX1_begin_1 rfl ?_
  refine z_putf fl_X1_9 dX1_begin_2 m_d rfl (Nat.le_of_ble_eq_true rfl) rfl rfl (fun M m_d o => ?_)
  have fr := fr.one o (by omega)
  have o1 : Off _ M de (de + 1) := fun x hx => o x (by omega)
  have hc := hc.off o1 (by omega)
  refine g_aload_n dX1_begin_5 rfl ?_
  refine z_iconst dX1_begin_6 ?_
  refine z_putf fl_X1_15 dX1_begin_7 m_d rfl (Nat.le_of_ble_eq_true rfl) rfl rfl (fun M m_d o => ?_)
  have fr := fr.one o (by omega)
  have o1 : Off _ M de (de + 1) := fun x hx => o x (by omega)
  have hc := hc.off o1 (by omega)
  refine g_aload_n dX1_begin_10 rfl ?_
  refine z_lconst (a := 0) dX1_begin_11 rfl ?_
  refine z_putf fl_X1_19 dX1_begin_12 m_d rfl (Nat.le_of_ble_eq_true rfl) rfl rfl (fun M m_d o => ?_)
  have fr := fr.one o (by omega)
  have o1 : Off _ M de (de + 1) := fun x hx => o x (by omega)
  have hc := hc.off o1 (by omega)
  have m_d : M de = some (ob 1 [.ref cd, vI ((0 : Nat) : Int), vL 0, w3]) := m_d
  refine z_iconst dX1_begin_15 ?_
  refine g_istore_n dX1_begin_16 rfl (Nat.le_of_ble_eq_true rfl) ?_
  refine g_iload_n dX1_begin_17 rfl ?_
  refine z_iconst dX1_begin_18 ?_
  refine z_icmp_ge (tgt := 32) dX1_begin_19 (by decide) (by omega) (by omega) (fun c19 => absurd c19 (by omega)) (fun c19 => ?_)
  refine g_aload_n dX1_begin_22 rfl ?_
  refine z_callVV dX1_begin_23 lm_X1_23 lk_X1_shift (De_shift m_d hc hb (by omega) (by omega) (by omega)) rfl rfl m_d rfl (mkRoom rfl rfl) (Nat.le_of_ble_eq_true rfl) (Nat.le_of_ble_eq_true rfl) (Nat.le_of_ble_eq_true rfl) (fun M r hp => ?_)
  obtain ⟨rfl, m_d, o1⟩ := hp
  have hc := hc.off o1 (by omega)
  have fr := fr.tr o1
  refine z_iinc dX1_begin_26 rfl (Nat.le_of_ble_eq_true rfl) ?_
  refine g_goto (tgt := 17) dX1_begin_29 (by decide) ?_
  refine g_iload_n dX1_begin_17 rfl ?_
  refine z_iconst dX1_begin_18 ?_
  refine z_icmp_ge (tgt := 32) dX1_begin_19 (by decide) (by omega) (by omega) (fun c19 => absurd c19 (by omega)) (fun c19 => ?_)
  refine g_aload_n dX1_begin_22 rfl ?_
  refine z_callVV dX1_begin_23 lm_X1_23 lk_X1_shift (De_shift m_d hc hb (by omega) (by omega) (by omega)) rfl rfl m_d rfl (mkRoom rfl rfl) (Nat.le_of_ble_eq_true rfl) (Nat.le_of_ble_eq_true rfl) (Nat.le_of_ble_eq_true rfl) (fun M r hp => ?_)
  obtain ⟨rfl, m_d, o1⟩ := hp
  have hc := hc.off o1 (by omega)
  have fr := fr.tr o1
  refine z_iinc dX1_begin_26 rfl (Nat.le_of_ble_eq_true rfl) ?_
  refine g_goto (tgt := 17) dX1_begin_29 (by decide) ?_
  refine g_iload_n dX1_begin_17 rfl ?_
  refine z_iconst dX1_begin_18 ?_
  refine z_icmp_ge (tgt := 32) dX1_begin_19 (by decide) (by omega) (by omega) (fun c19 => absurd c19 (by omega)) (fun c19 => ?_)
  refine g_aload_n dX1_begin_22 rfl ?_
  refine z_callVV dX1_begin_23 lm_X1_23 lk_X1_shift (De_shift m_d hc hb (by omega) (by omega) (by omega)) rfl rfl m_d rfl (mkRoom rfl rfl) (Nat.le_of_ble_eq_true rfl) (Nat.le_of_ble_eq_true rfl) (Nat.le_of_ble_eq_true rfl) (fun M r hp => ?_)
  obtain ⟨rfl, m_d, o1⟩ := hp
  have hc := hc.off o1 (by omega)
  have fr := fr.tr o1
  refine z_iinc dX1_begin_26 rfl (Nat.le_of_ble_eq_true rfl) ?_
  refine g_goto (tgt := 17) dX1_begin_29 (by decide) ?_
  refine g_iload_n dX1_begin_17 rfl ?_
  refine z_iconst dX1_begin_18 ?_
  refine z_icmp_ge (tgt := 32) dX1_begin_19 (by decide) (by omega) (by omega) (fun c19 => absurd c19 (by omega)) (fun c19 => ?_)
  refine g_aload_n dX1_begin_22 rfl ?_
  refine z_callVV dX1_begin_23 lm_X1_23 lk_X1_shift (De_shift m_d hc hb (by omega) (by omega) (by omega)) rfl rfl m_d rfl (mkRoom rfl rfl) (Nat.le_of_ble_eq_true rfl) (Nat.le_of_ble_eq_true rfl) (Nat.le_of_ble_eq_true rfl) (fun M r hp => ?_)
  obtain ⟨rfl, m_d, o1⟩ := hp
  have hc := hc.off o1 (by omega)
  have fr := fr.tr o1
  refine z_iinc dX1_begin_26 rfl (Nat.le_of_ble_eq_true rfl) ?_
  refine g_goto (tgt := 17) dX1_begin_29 (by decide) ?_
  refine g_iload_n dX1_begin_17 rfl ?_
  refine z_iconst dX1_begin_18 ?_
  refine z_icmp_ge (tgt := 32) dX1_begin_19 (by decide) (by omega) (by omega) (fun c19 => ?_) (fun c19 => absurd c19 (by omega))
  refine g_aload_n dX1_begin_32 rfl ?_
  refine z_ldc2 (4294967296) dX1_begin_33 kc_X1_26 rfl ?_
  refine z_putf fl_X1_28 dX1_begin_36 m_d rfl (Nat.le_of_ble_eq_true rfl) rfl rfl (fun M m_d o => ?_)
  have fr := fr.one o (by omega)
  have o1 : Off _ M de (de + 1) := fun x hx => o x (by omega)
  have hc := hc.off o1 (by omega)
  exact g_return dX1_begin_39 rfl (Nat.le_of_ble_eq_true rfl) (Nat.le_of_ble_eq_true rfl) ⟨rfl, rfl, m_d, fr⟩
set_option maxHeartbeats 1000000 in
theorem De_number {M : pM} {z de cd n : Nat} {d : ds} {t : Int} (h : De M de cd d) (hk : okD d n) (ht : 1 ≤ t ∧ t ≤ 65536) : CR I_X1_number yX1_number [.ref de, vI t] M z (some (vI (dnum d t))) := by
  have m_d : M de = some (ob 1 [.ref cd, vI d.1, vL d.2.1, vL d.2.2]) := h
  obtain ⟨k1, k2, k3⟩ := hk
  have hq : 256 ≤ d.2.2 / t := by rw [Int.le_ediv_iff_mul_le (by omega)]; omega
  have hq2 : d.2.2 / t ≤ d.2.2 := Int.ediv_le_self _ (by omega)
  have hd1 : 0 ≤ d.2.1 / (d.2.2 / t) := Int.ediv_nonneg k2.1 (by omega)
  have hd2 : d.2.1 / (d.2.2 / t) ≤ d.2.1 := Int.ediv_le_self _ k2.1
  refine C.intro (pl := [some (.ref de), some (vI t), none, none]) pn_X1 rfl (fun h => absurd h (by decide)) rfl (Nat.le_of_ble_eq_true rfl) rfl ?_
  refine g_iload_n dX1_number_0 rfl ?_
  refine z_iconst dX1_number_1 ?_
  refine z_icmp_ge (tgt := 9) dX1_number_2 (by decide) (by omega) (by omega) (fun c2 => ?_) (fun c2 => absurd c2 (by omega))
  refine g_aload_n dX1_number_9 rfl ?_
  refine z_getf fl_X1_28 dX1_number_10 m_d rfl ?_
  refine g_iload_n dX1_number_13 rfl ?_
  refine z_i2l dX1_number_14 (by omega) ?_
  refine z_ldiv dX1_number_15 (by omega) (by omega) ?_
  refine g_lstore_n dX1_number_16 rfl (Nat.le_of_ble_eq_true rfl) ?_
  refine g_lload_n dX1_number_17 rfl ?_
  refine z_lconst (a := 1) dX1_number_18 rfl ?_
  refine z_lcmp dX1_number_19 (by omega) (by omega) (fun c19 => ?_) (fun c19 => ?_) (fun c19 => ?_)
  · refine z_if_ge (tgt := 27) dX1_number_20 (by decide) (by decide) (fun _ => ?_) (fun q => absurd q (by decide))
    refine g_iload_n dX1_number_27 rfl ?_
    refine z_iconst dX1_number_28 ?_
    refine z_isub dX1_number_29 ?_
    refine z_i2l dX1_number_30 (by omega) ?_
    refine g_aload_n dX1_number_31 rfl ?_
    refine z_getf fl_X1_19 dX1_number_32 m_d rfl ?_
    refine g_lload_n dX1_number_35 rfl ?_
    refine z_ldiv dX1_number_36 (by omega) (by omega) ?_
    refine z_minL lj_X1_39 dX1_number_37 ⟨(Nat.le_of_ble_eq_true rfl), (Nat.le_of_ble_eq_true rfl)⟩ (Nat.le_of_ble_eq_true rfl) (Nat.le_of_ble_eq_true rfl) (by omega) (by omega) ?_
    refine z_l2i dX1_number_40 (by omega) ?_
    exact g_ireturn dX1_number_41 rfl (Nat.le_of_ble_eq_true rfl) (Nat.le_of_ble_eq_true rfl) ⟨rfl, rfl, rfl⟩
  · refine z_if_ge (tgt := 27) dX1_number_20 (by decide) (by decide) (fun _ => ?_) (fun q => absurd q (by decide))
    refine g_iload_n dX1_number_27 rfl ?_
    refine z_iconst dX1_number_28 ?_
    refine z_isub dX1_number_29 ?_
    refine z_i2l dX1_number_30 (by omega) ?_
    refine g_aload_n dX1_number_31 rfl ?_
    refine z_getf fl_X1_19 dX1_number_32 m_d rfl ?_
    refine g_lload_n dX1_number_35 rfl ?_
    refine z_ldiv dX1_number_36 (by omega) (by omega) ?_
    refine z_minL lj_X1_39 dX1_number_37 ⟨(Nat.le_of_ble_eq_true rfl), (Nat.le_of_ble_eq_true rfl)⟩ (Nat.le_of_ble_eq_true rfl) (Nat.le_of_ble_eq_true rfl) (by omega) (by omega) ?_
    refine z_l2i dX1_number_40 (by omega) ?_
    exact g_ireturn dX1_number_41 rfl (Nat.le_of_ble_eq_true rfl) (Nat.le_of_ble_eq_true rfl) ⟨rfl, rfl, rfl⟩
  · refine z_if_ge (tgt := 27) dX1_number_20 (by decide) (by decide) (fun q => absurd q (by decide)) (fun _ => ?_)
    refine z_iconst dX1_number_23 ?_
    refine g_goto (tgt := 41) dX1_number_24 (by decide) ?_
    exact g_ireturn dX1_number_41 rfl (Nat.le_of_ble_eq_true rfl) (Nat.le_of_ble_eq_true rfl) ⟨rfl, rfl, by exfalso; omega⟩
theorem okD_x {d : ds} {n : Nat} {x : iv} (h : okD d n) (hx : okI x) (hn : x.1 ≤ dnum d x.2.2 ∧ dnum d x.2.2 < x.2.1) : 0 ≤ d.2.1 - d.2.2 / x.2.2 * x.1 ∧ d.2.1 - d.2.2 / x.2.2 * x.1 < ivr d.2.2 x := by
  obtain ⟨h1, h2, h3⟩ := h
  obtain ⟨q1, q2, q3, q4, q5, q6, q7⟩ := ivr_b h3 hx
  obtain ⟨a, b, t⟩ := x
  obtain ⟨x1, x2, x3, x4⟩ := hx
  simp only at *
  unfold dnum at hn
  have e1 : d.2.2 / t * (d.2.1 / (d.2.2 / t)) ≤ d.2.1 := Int.mul_ediv_self_le (by omega)
  have e2 : d.2.2 / t * a ≤ d.2.2 / t * (d.2.1 / (d.2.2 / t)) := Int.mul_le_mul_of_nonneg_left (by omega) (by omega)
  refine ⟨by omega, ?_⟩
  by_cases hb : b < t
  · rw [q6 hb]
    have e3 : d.2.1 < d.2.2 / t * (d.2.1 / (d.2.2 / t)) + d.2.2 / t := Int.lt_mul_ediv_self_add (by omega)
    have e4 : d.2.2 / t * (d.2.1 / (d.2.2 / t) + 1) ≤ d.2.2 / t * b := Int.mul_le_mul_of_nonneg_left (by omega) (by omega)
    rw [Int.mul_add, Int.mul_one] at e4
    have e5 : d.2.2 / t * (b - a) = d.2.2 / t * b - d.2.2 / t * a := Int.mul_sub _ _ _
    omega
  · rw [q7 (by omega)]; omega
theorem sh1_b {cs : List Int} {d : ds} (hb : okB cs) (h : 0 ≤ d.2.1 ∧ d.2.1 < d.2.2) (hr : 1 ≤ d.2.2 ∧ d.2.2 ≤ 16777216) : 0 ≤ (sh1 cs d).2.1 ∧ (sh1 cs d).2.1 < d.2.2 * 256 := by
  have := hb.get d.1
  unfold sh1
  dsimp only
  rw [Int.emod_eq_of_lt (by omega) (by omega)]
  omega
theorem dsf_b {cs : List Int} (hb : okB cs) : ∀ (n : Nat) {d : ds}, (0 ≤ d.2.1 ∧ d.2.1 < d.2.2) → (1 ≤ d.2.2 ∧ d.2.2 ≤ 4294967296) → (dsf cs n d).1 ≤ d.1 + n ∧ (0 ≤ (dsf cs n d).2.1 ∧ (dsf cs n d).2.1 < (dsf cs n d).2.2) ∧ (dsf cs n d).2.2 ≤ 4294967296
  | 0, d, h, hr => ⟨Nat.le_refl _, h, hr.2⟩
  | n + 1, d, h, hr => by
    rw [dsf]
    split
    · next hh =>
      have hs := sh1_b hb h ⟨hr.1, hh⟩
      have := dsf_b hb n (d := ((sh1 cs d).1, (sh1 cs d).2.1, d.2.2 * 256)) hs (by dsimp only; omega)
      have e : (sh1 cs d).1 = d.1 + 1 := rfl
      dsimp only at this
      rw [e] at this ⊢
      exact ⟨by omega, this.2⟩
    · exact ⟨by omega, h, hr.2⟩
theorem dsf_g {cs : List Int} {d : ds} (hr : 256 ≤ d.2.2) : 16777216 < (dsf cs 4 d).2.2 := by
  unfold dsf
  split
  · unfold dsf
    dsimp only
    split
    · unfold dsf
      dsimp only
      split
      · unfold dsf
        dsimp only
        split
        · dsimp only [dsf]; omega
        · dsimp only; omega
      · dsimp only; omega
    · dsimp only; omega
  · omega
theorem okD_div {cs : List Int} (hb : okB cs) {d : ds} {n : Nat} {x : iv} (h : okD d n) (hx : okI x) (hn : x.1 ≤ dnum d x.2.2 ∧ dnum d x.2.2 < x.2.1) : okD (div_ cs d x) (n + 4) := by
  have h2 := okD_x h hx hn
  obtain ⟨h1, -, h3⟩ := h
  obtain ⟨q1, q2, q3, q4, q5, -⟩ := ivr_b h3 hx
  have hg := dsf_g (cs := cs) (d := (d.1, d.2.1 - d.2.2 / x.2.2 * x.1, ivr d.2.2 x)) q4
  have hf := dsf_b hb 4 (d := (d.1, d.2.1 - d.2.2 / x.2.2 * x.1, ivr d.2.2 x)) h2 (by dsimp only; omega)
  dsimp only at hf
  exact ⟨by have := hf.1; unfold div_; omega, hf.2.1, hg, hf.2.2⟩
set_option maxHeartbeats 1000000 in
theorem De_interval {M : pM} {z de cd N n : Nat} {cs : List Int} {d : ds} {a b t : Int} (h : De M de cd d) (hc : Rw M cd N cs) (hb : okB cs) (hcd : cd + 2 ≤ de ∨ de < cd) (hk : okD d n) (hn : n ≤ 100000) (hx : okI (a, b, t)) (hnu : a ≤ dnum d t ∧ dnum d t < b) : CW I_X1_interval yX1_interval [.ref de, vI a, vI b, vI t] M z (fun M' r => r = none ∧ De M' de cd (div_ cs d (a, b, t)) ∧ Off M M' de (de + 1)) := by
  have m_d : M de = some (ob 1 [.ref cd, vI d.1, vL d.2.1, vL d.2.2]) := h
  have hdx := okD_x hk hx hnu
  obtain ⟨k1, k2, k3⟩ := id hk
  obtain ⟨x1, x2, x3, x4⟩ := id hx
  obtain ⟨q1, q2, q3, q4, q5, q6, q7⟩ := ivr_b k3 hx
  dsimp only at x1 x2 x3 x4 q1 q2 q3 q4 q5 q6 q7 hdx
  have fr : Off M M de (de + 1) := Off.rf
  refine C.intro (pl := [some (.ref de), some (vI a), some (vI b), some (vI t), none, none, none]) pn_X1 rfl (fun h => absurd h (by decide)) rfl (Nat.le_of_ble_eq_true rfl) rfl ?_
  have loop : ∀ (j : Nat) (e R : ds) (M1 : pM), j ≤ 4 → e.1 + j ≤ 200000 → (0 ≤ e.2.1 ∧ e.2.1 < e.2.2) → (1 ≤ e.2.2 ∧ e.2.2 ≤ 4294967296) → De M1 de cd e → Rw M1 cd N cs → Off M M1 de (de + 1) → R = dsf cs j e → ∀ K : Value, K.category = 2 → G I_X1_interval 0 0 (fun M' z' r' => z' = z ∧ r' = none ∧ De M' de cd R ∧ Off M M' de (de + 1)) 0 0 61 [some (.ref de), some (vI a), some (vI b), some (vI t), some K, none, some (vI (4 - (j : Int)))] [] M1 z := by
    intro j
    induction j with
    | zero =>
      intro e R M hj hn he hr h hc fr hR K hK
      subst hR
      refine g_iload dX1_interval_61 rfl ?_
      refine z_iconst dX1_interval_63 ?_
      refine z_icmp_ge (tgt := 100) dX1_interval_64 (by decide) (by omega) (by omega) (fun c64 => ?_) (fun c64 => absurd c64 (by omega))
      exact g_return dX1_interval_100 rfl (Nat.le_of_ble_eq_true rfl) (Nat.le_of_ble_eq_true rfl) ⟨rfl, rfl, h, fr⟩
    | succ j ih =>
      intro e R M hj hn he hr h hc fr hR K hK
      have m_d : M de = some (ob 1 [.ref cd, vI e.1, vL e.2.1, vL e.2.2]) := h
      subst hR
      rw [dsf]
      have e4 : (4 : Int) - ((j + 1 : Nat) : Int) + 1 = 4 - (j : Int) := by omega
      have ih2 := fun M2 h2 hc2 fr2 (hh : e.2.2 ≤ 16777216) => ih ((sh1 cs e).1, (sh1 cs e).2.1, e.2.2 * 256) _ M2 (by omega) (by show e.1 + 1 + j ≤ 200000; omega) (sh1_b hb he ⟨hr.1, hh⟩) (by dsimp only; omega) h2 hc2 fr2 rfl K hK
      refine g_iload dX1_interval_61 rfl ?_
      refine z_iconst dX1_interval_63 ?_
      refine z_icmp_ge (tgt := 100) dX1_interval_64 (by decide) (by omega) (by omega) (fun c64 => absurd c64 (by omega)) (fun c64 => ?_)
      refine g_aload_n dX1_interval_67 rfl ?_
      refine z_getf fl_X1_28 dX1_interval_68 m_d rfl ?_
      refine z_ldc2 (16777216) dX1_interval_71 kc_X1_45 rfl ?_
      refine z_lcmp dX1_interval_74 (by omega) (by omega) (fun c74 => ?_) (fun c74 => ?_) (fun c74 => ?_)
      · refine z_if_gt (tgt := 100) dX1_interval_75 (by decide) (by decide) (fun _ => ?_) (fun q => absurd q (by decide))
        exact g_return dX1_interval_100 rfl (Nat.le_of_ble_eq_true rfl) (Nat.le_of_ble_eq_true rfl) ⟨rfl, rfl, by rw [if_neg (by omega)]; exact h, fr⟩
      · refine z_if_gt (tgt := 100) dX1_interval_75 (by decide) (by decide) (fun q => absurd q (by decide)) (fun _ => ?_)
        refine g_aload_n dX1_interval_78 rfl ?_
        refine z_callVV dX1_interval_79 lm_X1_23 lk_X1_shift (De_shift m_d hc hb (by omega) (by omega) (by omega)) rfl rfl m_d rfl (mkRoom rfl rfl) (Nat.le_of_ble_eq_true rfl) (Nat.le_of_ble_eq_true rfl) (Nat.le_of_ble_eq_true rfl) (fun M r hp => ?_)
        obtain ⟨rfl, m_d, o1⟩ := hp
        have hc := hc.off o1 (by omega)
        have fr := fr.tr o1
        refine g_aload_n dX1_interval_82 rfl ?_
        refine g_aload_n dX1_interval_83 rfl ?_
        refine z_getf fl_X1_28 dX1_interval_84 m_d rfl ?_
        refine z_ldc2 (256) dX1_interval_87 kc_X1_37 rfl ?_
        refine z_lmul dX1_interval_90 ?_
        refine z_putf fl_X1_28 dX1_interval_91 m_d rfl (Nat.le_of_ble_eq_true rfl) rfl rfl (fun M m_d o => ?_)
        have fr := fr.one o (by omega)
        have o1 : Off _ M de (de + 1) := fun x hx => o x (by omega)
        have hc := hc.off o1 (by omega)
        refine z_iinc dX1_interval_94 rfl (Nat.le_of_ble_eq_true rfl) ?_
        refine g_goto (tgt := 61) dX1_interval_97 (by decide) ?_
        rw [if_pos (by omega), e4]
        exact ih2 M m_d hc fr (by omega)
      · refine z_if_gt (tgt := 100) dX1_interval_75 (by decide) (by decide) (fun q => absurd q (by decide)) (fun _ => ?_)
        refine g_aload_n dX1_interval_78 rfl ?_
        refine z_callVV dX1_interval_79 lm_X1_23 lk_X1_shift (De_shift m_d hc hb (by omega) (by omega) (by omega)) rfl rfl m_d rfl (mkRoom rfl rfl) (Nat.le_of_ble_eq_true rfl) (Nat.le_of_ble_eq_true rfl) (Nat.le_of_ble_eq_true rfl) (fun M r hp => ?_)
        obtain ⟨rfl, m_d, o1⟩ := hp
        have hc := hc.off o1 (by omega)
        have fr := fr.tr o1
        refine g_aload_n dX1_interval_82 rfl ?_
        refine g_aload_n dX1_interval_83 rfl ?_
        refine z_getf fl_X1_28 dX1_interval_84 m_d rfl ?_
        refine z_ldc2 (256) dX1_interval_87 kc_X1_37 rfl ?_
        refine z_lmul dX1_interval_90 ?_
        refine z_putf fl_X1_28 dX1_interval_91 m_d rfl (Nat.le_of_ble_eq_true rfl) rfl rfl (fun M m_d o => ?_)
        have fr := fr.one o (by omega)
        have o1 : Off _ M de (de + 1) := fun x hx => o x (by omega)
        have hc := hc.off o1 (by omega)
        refine z_iinc dX1_interval_94 rfl (Nat.le_of_ble_eq_true rfl) ?_
        refine g_goto (tgt := 61) dX1_interval_97 (by decide) ?_
        rw [if_pos (by omega), e4]
        exact ih2 M m_d hc fr (by omega)
  have cont : ∀ M1 : pM, De M1 de cd (d.1, d.2.1 - d.2.2 / t * a, ivr d.2.2 (a, b, t)) → Rw M1 cd N cs → Off M M1 de (de + 1) → ∀ K : Value, K.category = 2 → G I_X1_interval 0 0 (fun M' z' r' => z' = z ∧ r' = none ∧ De M' de cd (div_ cs d (a, b, t)) ∧ Off M M' de (de + 1)) 0 0 58 [some (.ref de), some (vI a), some (vI b), some (vI t), some K, none, none] [] M1 z := by
    intro M h hc fr K hK
    refine z_iconst dX1_interval_58 ?_
    refine g_istore dX1_interval_59 (Nat.le_of_ble_eq_true rfl) ?_
    exact loop 4 _ _ M (by omega) (by dsimp only; omega) hdx (by dsimp only; omega) h hc fr rfl K hK
  refine g_iload_n dX1_interval_0 rfl ?_
  refine z_iconst dX1_interval_1 ?_
  refine z_icmp_ge (tgt := 6) dX1_interval_2 (by decide) (by omega) (by omega) (fun c2 => ?_) (fun c2 => absurd c2 (by omega))
  refine g_aload_n dX1_interval_6 rfl ?_
  refine z_getf fl_X1_28 dX1_interval_7 m_d rfl ?_
  refine g_iload_n dX1_interval_10 rfl ?_
  refine z_i2l dX1_interval_11 (by omega) ?_
  refine z_ldiv dX1_interval_12 (by omega) (by omega) ?_
  refine g_lstore dX1_interval_13 (Nat.le_of_ble_eq_true rfl) ?_
  refine g_aload_n dX1_interval_15 rfl ?_
  refine g_dup dX1_interval_16 rfl ?_
  refine z_getf fl_X1_19 dX1_interval_17 m_d rfl ?_
  refine g_lload dX1_interval_20 rfl ?_
  refine g_iload_n dX1_interval_22 rfl ?_
  refine z_i2l dX1_interval_23 (by omega) ?_
  refine z_lmul dX1_interval_24 ?_
  refine z_lsub dX1_interval_25 ?_
  refine z_putf fl_X1_19 dX1_interval_26 m_d rfl (Nat.le_of_ble_eq_true rfl) rfl rfl (fun M m_d o => ?_)
  have fr := fr.one o (by omega)
  have o1 : Off _ M de (de + 1) := fun x hx => o x (by omega)
  have hc := hc.off o1 (by omega)
  refine g_aload_n dX1_interval_29 rfl ?_
  refine g_iload_n dX1_interval_30 rfl ?_
  refine g_iload_n dX1_interval_31 rfl ?_
  refine z_icmp_ge (tgt := 45) dX1_interval_32 (by decide) (by omega) (by omega) (fun c32 => ?_) (fun c32 => ?_)
  · refine g_aload_n dX1_interval_45 rfl ?_
    refine z_getf fl_X1_28 dX1_interval_46 m_d rfl ?_
    refine g_lload dX1_interval_49 rfl ?_
    refine g_iload_n dX1_interval_51 rfl ?_
    refine z_i2l dX1_interval_52 (by omega) ?_
    refine z_lmul dX1_interval_53 ?_
    refine z_lsub dX1_interval_54 ?_
    refine z_putf fl_X1_28 dX1_interval_55 m_d rfl (Nat.le_of_ble_eq_true rfl) rfl rfl (fun M m_d o => ?_)
    have fr := fr.one o (by omega)
    have o1 : Off _ M de (de + 1) := fun x hx => o x (by omega)
    have hc := hc.off o1 (by omega)
    have h2 : De M de cd (d.1, d.2.1 - d.2.2 / t * a, ivr d.2.2 (a, b, t)) := by unfold De; dsimp only; first | (rw [q6 c32]; exact m_d) | (rw [q7 c32]; exact m_d)
    exact cont M h2 hc fr _ rfl
  · refine g_lload dX1_interval_35 rfl ?_
    refine g_iload_n dX1_interval_37 rfl ?_
    refine g_iload_n dX1_interval_38 rfl ?_
    refine z_isub dX1_interval_39 ?_
    refine z_i2l dX1_interval_40 (by omega) ?_
    refine z_lmul dX1_interval_41 ?_
    refine g_goto (tgt := 55) dX1_interval_42 (by decide) ?_
    refine z_putf fl_X1_28 dX1_interval_55 m_d rfl (Nat.le_of_ble_eq_true rfl) rfl rfl (fun M m_d o => ?_)
    have fr := fr.one o (by omega)
    have o1 : Off _ M de (de + 1) := fun x hx => o x (by omega)
    have hc := hc.off o1 (by omega)
    have h2 : De M de cd (d.1, d.2.1 - d.2.2 / t * a, ivr d.2.2 (a, b, t)) := by unfold De; dsimp only; first | (rw [q6 c32]; exact m_d) | (rw [q7 c32]; exact m_d)
    exact cont M h2 hc fr _ rfl
end
