section
-- ===== PART A: goes FIRST, ahead of the names: the tables' words, and 'selects' of the private methods out of them =====
/-- a private method of a class that the tables say can be made, by its rows of tables_1 -/
def lw_okq (q : MethodName × Nat) : Prop := (q.1.cls ≠ "java/lang/invoke/MethodHandle" ∧ q.1.cls ≠ "java/lang/invoke/VarHandle") ∧ Cond.instantiable q.1.cls q.2 ∈ tables_1 ∧ Cond.privateMethod q.1 ∈ tables_1 ∧ Cond.instanceMethod q.1 ∈ tables_1
theorem lw_p0 : lw_okq (⟨"LiveChanges$Facts", "clear", "()V"⟩, 11) := ⟨⟨by decide +kernel, by decide +kernel⟩, List.mem_of_getElem? (i := 58) (by decide +kernel), List.mem_of_getElem? (i := 64) (by decide +kernel), List.mem_of_getElem? (i := 65) (by decide +kernel)⟩
theorem lw_p1 : lw_okq (⟨"LiveChanges", "enter", "(IIIII)I"⟩, 5) := ⟨⟨by decide +kernel, by decide +kernel⟩, List.mem_of_getElem? (i := 12) (by decide +kernel), List.mem_of_getElem? (i := 145) (by decide +kernel), List.mem_of_getElem? (i := 146) (by decide +kernel)⟩
theorem lw_p2 : lw_okq (⟨"LiveChanges$Facts", "learn", "(LLiveChanges$Log;I)V"⟩, 11) := ⟨⟨by decide +kernel, by decide +kernel⟩, List.mem_of_getElem? (i := 58) (by decide +kernel), List.mem_of_getElem? (i := 160) (by decide +kernel), List.mem_of_getElem? (i := 161) (by decide +kernel)⟩
theorem lw_p3 : lw_okq (⟨"LiveChanges$Facts", "learnOfJob", "(LLiveChanges$Log;II)V"⟩, 11) := ⟨⟨by decide +kernel, by decide +kernel⟩, List.mem_of_getElem? (i := 58) (by decide +kernel), List.mem_of_getElem? (i := 164) (by decide +kernel), List.mem_of_getElem? (i := 165) (by decide +kernel)⟩
theorem lw_p4 : lw_okq (⟨"LiveChanges$Facts", "setTraits", "(LLiveChanges$Log;II)V"⟩, 11) := ⟨⟨by decide +kernel, by decide +kernel⟩, List.mem_of_getElem? (i := 58) (by decide +kernel), List.mem_of_getElem? (i := 168) (by decide +kernel), List.mem_of_getElem? (i := 169) (by decide +kernel)⟩
theorem lw_p5 : lw_okq (⟨"LiveChanges$Facts", "leave", "(I)V"⟩, 11) := ⟨⟨by decide +kernel, by decide +kernel⟩, List.mem_of_getElem? (i := 58) (by decide +kernel), List.mem_of_getElem? (i := 172) (by decide +kernel), List.mem_of_getElem? (i := 173) (by decide +kernel)⟩
theorem lw_p6 : lw_okq (⟨"LiveChanges$Facts", "setApart", "(IIZ)V"⟩, 11) := ⟨⟨by decide +kernel, by decide +kernel⟩, List.mem_of_getElem? (i := 58) (by decide +kernel), List.mem_of_getElem? (i := 176) (by decide +kernel), List.mem_of_getElem? (i := 177) (by decide +kernel)⟩
theorem lw_p7 : lw_okq (⟨"LiveChanges", "solveOf", "(I)LLiveChanges$Solve;"⟩, 5) := ⟨⟨by decide +kernel, by decide +kernel⟩, List.mem_of_getElem? (i := 12) (by decide +kernel), List.mem_of_getElem? (i := 281) (by decide +kernel), List.mem_of_getElem? (i := 282) (by decide +kernel)⟩
theorem lw_p8 : lw_okq (⟨"LiveChanges$Solve", "followChange", "(LLiveChanges$Log;I)V"⟩, 12) := ⟨⟨by decide +kernel, by decide +kernel⟩, List.mem_of_getElem? (i := 216) (by decide +kernel), List.mem_of_getElem? (i := 291) (by decide +kernel), List.mem_of_getElem? (i := 292) (by decide +kernel)⟩
theorem lw_p9 : lw_okq (⟨"LiveChanges$Solve", "putInBoth", "(II)V"⟩, 12) := ⟨⟨by decide +kernel, by decide +kernel⟩, List.mem_of_getElem? (i := 216) (by decide +kernel), List.mem_of_getElem? (i := 295) (by decide +kernel), List.mem_of_getElem? (i := 296) (by decide +kernel)⟩
theorem lw_p10 : lw_okq (⟨"LiveChanges$Solve", "scoreAnew", "()V"⟩, 12) := ⟨⟨by decide +kernel, by decide +kernel⟩, List.mem_of_getElem? (i := 216) (by decide +kernel), List.mem_of_getElem? (i := 299) (by decide +kernel), List.mem_of_getElem? (i := 300) (by decide +kernel)⟩
theorem lw_p11 : lw_okq (⟨"LiveChanges$Solve", "keepIfBest", "()V"⟩, 12) := ⟨⟨by decide +kernel, by decide +kernel⟩, List.mem_of_getElem? (i := 216) (by decide +kernel), List.mem_of_getElem? (i := 323) (by decide +kernel), List.mem_of_getElem? (i := 324) (by decide +kernel)⟩
theorem lw_p12 : lw_okq (⟨"LiveChanges$Solve", "makeStep", "(I)V"⟩, 12) := ⟨⟨by decide +kernel, by decide +kernel⟩, List.mem_of_getElem? (i := 216) (by decide +kernel), List.mem_of_getElem? (i := 345) (by decide +kernel), List.mem_of_getElem? (i := 346) (by decide +kernel)⟩
theorem lw_p13 : lw_okq (⟨"LiveChanges$Solve", "tryPlan", "(IJ)V"⟩, 12) := ⟨⟨by decide +kernel, by decide +kernel⟩, List.mem_of_getElem? (i := 216) (by decide +kernel), List.mem_of_getElem? (i := 357) (by decide +kernel), List.mem_of_getElem? (i := 358) (by decide +kernel)⟩
theorem lw_p14 : lw_okq (⟨"LiveChanges", "countOf", "(I)I"⟩, 5) := ⟨⟨by decide +kernel, by decide +kernel⟩, List.mem_of_getElem? (i := 12) (by decide +kernel), List.mem_of_getElem? (i := 444) (by decide +kernel), List.mem_of_getElem? (i := 445) (by decide +kernel)⟩
theorem lw_p15 : lw_okq (⟨"LiveChanges", "traitOf", "(II)I"⟩, 5) := ⟨⟨by decide +kernel, by decide +kernel⟩, List.mem_of_getElem? (i := 12) (by decide +kernel), List.mem_of_getElem? (i := 452) (by decide +kernel), List.mem_of_getElem? (i := 453) (by decide +kernel)⟩
def lw_privs_1 : List (MethodName × Nat) := [(⟨"LiveChanges$Facts", "clear", "()V"⟩, 11), (⟨"LiveChanges", "enter", "(IIIII)I"⟩, 5), (⟨"LiveChanges$Facts", "learn", "(LLiveChanges$Log;I)V"⟩, 11), (⟨"LiveChanges$Facts", "learnOfJob", "(LLiveChanges$Log;II)V"⟩, 11), (⟨"LiveChanges$Facts", "setTraits", "(LLiveChanges$Log;II)V"⟩, 11), (⟨"LiveChanges$Facts", "leave", "(I)V"⟩, 11), (⟨"LiveChanges$Facts", "setApart", "(IIZ)V"⟩, 11), (⟨"LiveChanges", "solveOf", "(I)LLiveChanges$Solve;"⟩, 5), (⟨"LiveChanges$Solve", "followChange", "(LLiveChanges$Log;I)V"⟩, 12), (⟨"LiveChanges$Solve", "putInBoth", "(II)V"⟩, 12), (⟨"LiveChanges$Solve", "scoreAnew", "()V"⟩, 12), (⟨"LiveChanges$Solve", "keepIfBest", "()V"⟩, 12), (⟨"LiveChanges$Solve", "makeStep", "(I)V"⟩, 12), (⟨"LiveChanges$Solve", "tryPlan", "(IJ)V"⟩, 12), (⟨"LiveChanges", "countOf", "(I)I"⟩, 5), (⟨"LiveChanges", "traitOf", "(II)I"⟩, 5)]
theorem lw_r1 : ∀ q ∈ lw_privs_1, lw_okq q := List.forall_mem_cons.mpr ⟨lw_p0, List.forall_mem_cons.mpr ⟨lw_p1, List.forall_mem_cons.mpr ⟨lw_p2, List.forall_mem_cons.mpr ⟨lw_p3, List.forall_mem_cons.mpr ⟨lw_p4, List.forall_mem_cons.mpr ⟨lw_p5, List.forall_mem_cons.mpr ⟨lw_p6, List.forall_mem_cons.mpr ⟨lw_p7, List.forall_mem_cons.mpr ⟨lw_p8, List.forall_mem_cons.mpr ⟨lw_p9, List.forall_mem_cons.mpr ⟨lw_p10, List.forall_mem_cons.mpr ⟨lw_p11, List.forall_mem_cons.mpr ⟨lw_p12, List.forall_mem_cons.mpr ⟨lw_p13, List.forall_mem_cons.mpr ⟨lw_p14, List.forall_mem_cons.mpr ⟨lw_p15, fun _ h => absurd h List.not_mem_nil⟩⟩⟩⟩⟩⟩⟩⟩⟩⟩⟩⟩⟩⟩⟩⟩
theorem lw_p16 : lw_okq (⟨"LiveChangesModel", "forget", "(I)V"⟩, 30) := ⟨⟨by decide +kernel, by decide +kernel⟩, List.mem_of_getElem? (i := 460) (by decide +kernel), List.mem_of_getElem? (i := 466) (by decide +kernel), List.mem_of_getElem? (i := 467) (by decide +kernel)⟩
theorem lw_p17 : lw_okq (⟨"LiveChangesModel", "add", "(IIIII)I"⟩, 30) := ⟨⟨by decide +kernel, by decide +kernel⟩, List.mem_of_getElem? (i := 460) (by decide +kernel), List.mem_of_getElem? (i := 571) (by decide +kernel), List.mem_of_getElem? (i := 572) (by decide +kernel)⟩
theorem lw_p18 : lw_okq (⟨"LiveChangesModel", "apply", "(II)V"⟩, 30) := ⟨⟨by decide +kernel, by decide +kernel⟩, List.mem_of_getElem? (i := 460) (by decide +kernel), List.mem_of_getElem? (i := 575) (by decide +kernel), List.mem_of_getElem? (i := 576) (by decide +kernel)⟩
theorem lw_p19 : lw_okq (⟨"LiveChangesModel", "tell", "(II)V"⟩, 30) := ⟨⟨by decide +kernel, by decide +kernel⟩, List.mem_of_getElem? (i := 460) (by decide +kernel), List.mem_of_getElem? (i := 579) (by decide +kernel), List.mem_of_getElem? (i := 580) (by decide +kernel)⟩
theorem lw_p20 : lw_okq (⟨"LiveChangesModel", "isJob", "(I)Z"⟩, 30) := ⟨⟨by decide +kernel, by decide +kernel⟩, List.mem_of_getElem? (i := 460) (by decide +kernel), List.mem_of_getElem? (i := 587) (by decide +kernel), List.mem_of_getElem? (i := 588) (by decide +kernel)⟩
theorem lw_p21 : lw_okq (⟨"LiveChangesModel", "fillLate", "(I)V"⟩, 30) := ⟨⟨by decide +kernel, by decide +kernel⟩, List.mem_of_getElem? (i := 460) (by decide +kernel), List.mem_of_getElem? (i := 615) (by decide +kernel), List.mem_of_getElem? (i := 616) (by decide +kernel)⟩
theorem lw_p22 : lw_okq (⟨"LiveChangesModel", "judge", "(III)V"⟩, 30) := ⟨⟨by decide +kernel, by decide +kernel⟩, List.mem_of_getElem? (i := 460) (by decide +kernel), List.mem_of_getElem? (i := 619) (by decide +kernel), List.mem_of_getElem? (i := 620) (by decide +kernel)⟩
theorem lw_p23 : lw_okq (⟨"LiveChangesModel", "roomOf", "(III)I"⟩, 30) := ⟨⟨by decide +kernel, by decide +kernel⟩, List.mem_of_getElem? (i := 460) (by decide +kernel), List.mem_of_getElem? (i := 623) (by decide +kernel), List.mem_of_getElem? (i := 624) (by decide +kernel)⟩
theorem lw_p24 : lw_okq (⟨"LiveChangesModel", "isSolve", "(I)Z"⟩, 30) := ⟨⟨by decide +kernel, by decide +kernel⟩, List.mem_of_getElem? (i := 460) (by decide +kernel), List.mem_of_getElem? (i := 631) (by decide +kernel), List.mem_of_getElem? (i := 632) (by decide +kernel)⟩
theorem lw_p25 : lw_okq (⟨"LiveChangesModel", "catchUp", "(II)I"⟩, 30) := ⟨⟨by decide +kernel, by decide +kernel⟩, List.mem_of_getElem? (i := 460) (by decide +kernel), List.mem_of_getElem? (i := 635) (by decide +kernel), List.mem_of_getElem? (i := 636) (by decide +kernel)⟩
theorem lw_p26 : lw_okq (⟨"LiveChangesModel", "keepBest", "(I)V"⟩, 30) := ⟨⟨by decide +kernel, by decide +kernel⟩, List.mem_of_getElem? (i := 460) (by decide +kernel), List.mem_of_getElem? (i := 639) (by decide +kernel), List.mem_of_getElem? (i := 640) (by decide +kernel)⟩
theorem lw_p27 : lw_okq (⟨"LiveChangesModel", "copyPlan", "(II)V"⟩, 30) := ⟨⟨by decide +kernel, by decide +kernel⟩, List.mem_of_getElem? (i := 460) (by decide +kernel), List.mem_of_getElem? (i := 646) (by decide +kernel), List.mem_of_getElem? (i := 647) (by decide +kernel)⟩
theorem lw_p28 : lw_okq (⟨"LiveChangesModel", "attempt", "(I)V"⟩, 30) := ⟨⟨by decide +kernel, by decide +kernel⟩, List.mem_of_getElem? (i := 460) (by decide +kernel), List.mem_of_getElem? (i := 655) (by decide +kernel), List.mem_of_getElem? (i := 656) (by decide +kernel)⟩
theorem lw_p29 : lw_okq (⟨"LiveChangesModel", "isFree", "(II)Z"⟩, 30) := ⟨⟨by decide +kernel, by decide +kernel⟩, List.mem_of_getElem? (i := 460) (by decide +kernel), List.mem_of_getElem? (i := 659) (by decide +kernel), List.mem_of_getElem? (i := 660) (by decide +kernel)⟩
theorem lw_p30 : lw_okq (⟨"LiveChangesModel", "nth", "(II)I"⟩, 30) := ⟨⟨by decide +kernel, by decide +kernel⟩, List.mem_of_getElem? (i := 460) (by decide +kernel), List.mem_of_getElem? (i := 663) (by decide +kernel), List.mem_of_getElem? (i := 664) (by decide +kernel)⟩
theorem lw_p31 : lw_okq (⟨"LiveChangesModel", "makeFacts", "(II)V"⟩, 30) := ⟨⟨by decide +kernel, by decide +kernel⟩, List.mem_of_getElem? (i := 460) (by decide +kernel), List.mem_of_getElem? (i := 675) (by decide +kernel), List.mem_of_getElem? (i := 676) (by decide +kernel)⟩
def lw_privs_2 : List (MethodName × Nat) := [(⟨"LiveChangesModel", "forget", "(I)V"⟩, 30), (⟨"LiveChangesModel", "add", "(IIIII)I"⟩, 30), (⟨"LiveChangesModel", "apply", "(II)V"⟩, 30), (⟨"LiveChangesModel", "tell", "(II)V"⟩, 30), (⟨"LiveChangesModel", "isJob", "(I)Z"⟩, 30), (⟨"LiveChangesModel", "fillLate", "(I)V"⟩, 30), (⟨"LiveChangesModel", "judge", "(III)V"⟩, 30), (⟨"LiveChangesModel", "roomOf", "(III)I"⟩, 30), (⟨"LiveChangesModel", "isSolve", "(I)Z"⟩, 30), (⟨"LiveChangesModel", "catchUp", "(II)I"⟩, 30), (⟨"LiveChangesModel", "keepBest", "(I)V"⟩, 30), (⟨"LiveChangesModel", "copyPlan", "(II)V"⟩, 30), (⟨"LiveChangesModel", "attempt", "(I)V"⟩, 30), (⟨"LiveChangesModel", "isFree", "(II)Z"⟩, 30), (⟨"LiveChangesModel", "nth", "(II)I"⟩, 30), (⟨"LiveChangesModel", "makeFacts", "(II)V"⟩, 30)]
theorem lw_r2 : ∀ q ∈ lw_privs_2, lw_okq q := List.forall_mem_cons.mpr ⟨lw_p16, List.forall_mem_cons.mpr ⟨lw_p17, List.forall_mem_cons.mpr ⟨lw_p18, List.forall_mem_cons.mpr ⟨lw_p19, List.forall_mem_cons.mpr ⟨lw_p20, List.forall_mem_cons.mpr ⟨lw_p21, List.forall_mem_cons.mpr ⟨lw_p22, List.forall_mem_cons.mpr ⟨lw_p23, List.forall_mem_cons.mpr ⟨lw_p24, List.forall_mem_cons.mpr ⟨lw_p25, List.forall_mem_cons.mpr ⟨lw_p26, List.forall_mem_cons.mpr ⟨lw_p27, List.forall_mem_cons.mpr ⟨lw_p28, List.forall_mem_cons.mpr ⟨lw_p29, List.forall_mem_cons.mpr ⟨lw_p30, List.forall_mem_cons.mpr ⟨lw_p31, fun _ h => absurd h List.not_mem_nil⟩⟩⟩⟩⟩⟩⟩⟩⟩⟩⟩⟩⟩⟩⟩⟩
theorem lw_p32 : lw_okq (⟨"LiveChangesModel", "ofAll", "(I)I"⟩, 30) := ⟨⟨by decide +kernel, by decide +kernel⟩, List.mem_of_getElem? (i := 460) (by decide +kernel), List.mem_of_getElem? (i := 704) (by decide +kernel), List.mem_of_getElem? (i := 705) (by decide +kernel)⟩
def lw_privs_3 : List (MethodName × Nat) := [(⟨"LiveChangesModel", "ofAll", "(I)I"⟩, 30)]
theorem lw_r3 : ∀ q ∈ lw_privs_3, lw_okq q := List.forall_mem_cons.mpr ⟨lw_p32, fun _ h => absurd h List.not_mem_nil⟩
def lw_privs : List (MethodName × Nat) := lw_privs_1 ++ (lw_privs_2 ++ (lw_privs_3))
def lw_tbl : List Cond := k2_sels lw_privs ++ tables_1
theorem lw_privs_ok : ∀ q ∈ lw_privs, lw_okq q := by
  show ∀ q ∈ lw_privs_1 ++ (lw_privs_2 ++ (lw_privs_3)), lw_okq q
  exact List.forall_mem_append.mpr ⟨lw_r1, List.forall_mem_append.mpr ⟨lw_r2, lw_r3⟩⟩
-- ===== end of PART A; then your names; then what follows =====
end
section
def RX0 : String := "LiveChanges$Facts"
def TX0 : u_T := fun k => match k with
  | 0 => ("LiveChanges$Facts", "known", "I", false)
  | 1 => ("LiveChanges$Facts", "came", "I", false)
  | 2 => ("LiveChanges$Facts", "there", "[Z", true)
  | 3 => ("LiveChanges$Facts", "lengths", "[I", true)
  | 4 => ("LiveChanges$Facts", "weights", "[I", true)
  | 5 => ("LiveChanges$Facts", "wishes", "[I", true)
  | 6 => ("LiveChanges$Facts", "locks", "[I", true)
  | 7 => ("LiveChanges$Facts", "aparts", "[I", true)
  | 8 => ("LiveChanges$Facts", "sizes", "[I", true)
  | 9 => ("LiveChanges$Facts", "loads", "[I", true)
  | _ => ("LiveChanges$Facts", "guests", "[I", true)
def tyX0 : Nat → FieldType := fun k => match k with
  | 0 => .int
  | 1 => .int
  | 2 => .array .boolean
  | 3 => .array .int
  | 4 => .array .int
  | 5 => .array .int
  | 6 => .array .int
  | 7 => .array .int
  | 8 => .array .int
  | 9 => .array .int
  | _ => .array .int
abbrev wsX00 : List Cond := u_ws RX0 TX0 11
theorem nmX0 : ∀ a, a < 11 → ∀ b, b < 11 → a ≠ b → (TX0 a).2.1 ≠ (TX0 b).2.1 := by decide +kernel
theorem tyX0_ok : ∀ k, k < 11 → parseFieldDescriptor (TX0 k).2.2.1 = some (tyX0 k) := by decide +kernel
abbrev cX0_init : ByteArray := prog_2_method_1_code
def yX0_init : MethodName := ⟨RX0, "<init>", "()V"⟩
abbrev cX0_clear : ByteArray := prog_2_method_2_code
def yX0_clear : MethodName := ⟨RX0, "clear", "()V"⟩
abbrev cX0_become : ByteArray := prog_2_method_3_code
def yX0_become : MethodName := ⟨RX0, "become", "(LLiveChanges$Log;I)V"⟩
abbrev cX0_learn : ByteArray := prog_2_method_4_code
def yX0_learn : MethodName := ⟨RX0, "learn", "(LLiveChanges$Log;I)V"⟩
abbrev cX0_learnOfJob : ByteArray := prog_2_method_5_code
def yX0_learnOfJob : MethodName := ⟨RX0, "learnOfJob", "(LLiveChanges$Log;II)V"⟩
abbrev cX0_setTraits : ByteArray := prog_2_method_6_code
def yX0_setTraits : MethodName := ⟨RX0, "setTraits", "(LLiveChanges$Log;II)V"⟩
abbrev cX0_leave : ByteArray := prog_2_method_7_code
def yX0_leave : MethodName := ⟨RX0, "leave", "(I)V"⟩
abbrev cX0_setApart : ByteArray := prog_2_method_8_code
def yX0_setApart : MethodName := ⟨RX0, "setApart", "(IIZ)V"⟩
abbrev cX0_areApart : ByteArray := prog_2_method_9_code
def yX0_areApart : MethodName := ⟨RX0, "areApart", "(II)Z"⟩
abbrev cX0_has : ByteArray := prog_2_method_10_code
def yX0_has : MethodName := ⟨RX0, "has", "(I)Z"⟩
abbrev cX0_countThere : ByteArray := prog_2_method_11_code
def yX0_countThere : MethodName := ⟨RX0, "countThere", "()I"⟩
abbrev cX0_listMovable : ByteArray := prog_2_method_12_code
def yX0_listMovable : MethodName := ⟨RX0, "listMovable", "([I)I"⟩
abbrev cX0_scoreOf : ByteArray := prog_2_method_13_code
def yX0_scoreOf : MethodName := ⟨RX0, "scoreOf", "([I)J"⟩
def RX1 : String := "LiveChanges$Log"
def TX1 : u_T := fun k => match k with
  | 0 => ("LiveChanges$Log", "kinds", "[I", true)
  | 1 => ("LiveChanges$Log", "whoms", "[I", true)
  | 2 => ("LiveChanges$Log", "firsts", "[I", true)
  | 3 => ("LiveChanges$Log", "seconds", "[I", true)
  | 4 => ("LiveChanges$Log", "thirds", "[I", true)
  | _ => ("LiveChanges$Log", "count", "I", false)
def tyX1 : Nat → FieldType := fun k => match k with
  | 0 => .array .int
  | 1 => .array .int
  | 2 => .array .int
  | 3 => .array .int
  | 4 => .array .int
  | _ => .int
abbrev wsX10 : List Cond := u_ws RX1 TX1 6
theorem nmX1 : ∀ a, a < 6 → ∀ b, b < 6 → a ≠ b → (TX1 a).2.1 ≠ (TX1 b).2.1 := by decide +kernel
theorem tyX1_ok : ∀ k, k < 6 → parseFieldDescriptor (TX1 k).2.2.1 = some (tyX1 k) := by decide +kernel
abbrev cX1_init : ByteArray := prog_3_method_1_code
def yX1_init : MethodName := ⟨RX1, "<init>", "()V"⟩
abbrev cX1_add : ByteArray := prog_3_method_2_code
def yX1_add : MethodName := ⟨RX1, "add", "(IIIII)V"⟩
def RX2 : String := "LiveChanges$Mark"
def TX2 : u_T := fun k => match k with
  | 0 => ("LiveChanges$Mark", "known", "I", false)
  | 1 => ("LiveChanges$Mark", "plan", "[I", true)
  | 2 => ("LiveChanges$Mark", "best", "[I", true)
  | _ => ("LiveChanges$Mark", "late", "[J", true)
def tyX2 : Nat → FieldType := fun k => match k with
  | 0 => .int
  | 1 => .array .int
  | 2 => .array .int
  | _ => .array .long
abbrev wsX20 : List Cond := u_ws RX2 TX2 4
theorem nmX2 : ∀ a, a < 4 → ∀ b, b < 4 → a ≠ b → (TX2 a).2.1 ≠ (TX2 b).2.1 := by decide +kernel
theorem tyX2_ok : ∀ k, k < 4 → parseFieldDescriptor (TX2 k).2.2.1 = some (tyX2 k) := by decide +kernel
abbrev cX2_init : ByteArray := prog_4_method_1_code
def yX2_init : MethodName := ⟨RX2, "<init>", "(I)V"⟩
def RX3 : String := "LiveChanges$Solve"
def TX3 : u_T := fun k => match k with
  | 0 => ("LiveChanges$Solve", "facts", "LLiveChanges$Facts;", true)
  | 1 => ("LiveChanges$Solve", "plan", "[I", true)
  | 2 => ("LiveChanges$Solve", "best", "[I", true)
  | 3 => ("LiveChanges$Solve", "late", "[J", true)
  | 4 => ("LiveChanges$Solve", "marks", "[LLiveChanges$Mark;", true)
  | 5 => ("LiveChanges$Solve", "movable", "[I", true)
  | 6 => ("LiveChanges$Solve", "planScore", "J", false)
  | 7 => ("LiveChanges$Solve", "bestScore", "J", false)
  | 8 => ("LiveChanges$Solve", "steps", "I", false)
  | 9 => ("LiveChanges$Solve", "x", "I", false)
  | 10 => ("LiveChanges$Solve", "becamePlan", "I", false)
  | _ => ("LiveChanges$Solve", "becameBest", "I", false)
def tyX3 : Nat → FieldType := fun k => match k with
  | 0 => .object "LiveChanges$Facts"
  | 1 => .array .int
  | 2 => .array .int
  | 3 => .array .long
  | 4 => .array (.object "LiveChanges$Mark")
  | 5 => .array .int
  | 6 => .long
  | 7 => .long
  | 8 => .int
  | 9 => .int
  | 10 => .int
  | _ => .int
abbrev wsX30 : List Cond := u_ws RX3 TX3 12
theorem nmX3 : ∀ a, a < 12 → ∀ b, b < 12 → a ≠ b → (TX3 a).2.1 ≠ (TX3 b).2.1 := by decide +kernel
theorem tyX3_ok : ∀ k, k < 12 → parseFieldDescriptor (TX3 k).2.2.1 = some (tyX3 k) := by decide +kernel
abbrev cX3_init : ByteArray := prog_5_method_1_code
def yX3_init : MethodName := ⟨RX3, "<init>", "(II)V"⟩
abbrev cX3_rooms : ByteArray := prog_5_method_2_code
def yX3_rooms : MethodName := ⟨RX3, "rooms", "(Z)[I"⟩
abbrev cX3_latePlace : ByteArray := prog_5_method_3_code
def yX3_latePlace : MethodName := ⟨RX3, "latePlace", "()I"⟩
abbrev cX3_catchUp : ByteArray := prog_5_method_4_code
def yX3_catchUp : MethodName := ⟨RX3, "catchUp", "(LLiveChanges$Log;I)I"⟩
abbrev cX3_followChange : ByteArray := prog_5_method_5_code
def yX3_followChange : MethodName := ⟨RX3, "followChange", "(LLiveChanges$Log;I)V"⟩
abbrev cX3_putInBoth : ByteArray := prog_5_method_6_code
def yX3_putInBoth : MethodName := ⟨RX3, "putInBoth", "(II)V"⟩
abbrev cX3_scoreAnew : ByteArray := prog_5_method_7_code
def yX3_scoreAnew : MethodName := ⟨RX3, "scoreAnew", "()V"⟩
abbrev cX3_keepIfBest : ByteArray := prog_5_method_8_code
def yX3_keepIfBest : MethodName := ⟨RX3, "keepIfBest", "()V"⟩
abbrev cX3_makeSteps : ByteArray := prog_5_method_9_code
def yX3_makeSteps : MethodName := ⟨RX3, "makeSteps", "(I)I"⟩
abbrev cX3_makeStep : ByteArray := prog_5_method_10_code
def yX3_makeStep : MethodName := ⟨RX3, "makeStep", "(I)V"⟩
abbrev cX3_tryPlan : ByteArray := prog_5_method_11_code
def yX3_tryPlan : MethodName := ⟨RX3, "tryPlan", "(IJ)V"⟩
abbrev cX3_keepIn : ByteArray := prog_5_method_12_code
def yX3_keepIn : MethodName := ⟨RX3, "keepIn", "(LLiveChanges$Mark;)V"⟩
abbrev cX3_goBackTo : ByteArray := prog_5_method_13_code
def yX3_goBackTo : MethodName := ⟨RX3, "goBackTo", "(LLiveChanges$Mark;LLiveChanges$Log;)V"⟩
abbrev cX3_isLike : ByteArray := prog_5_method_14_code
def yX3_isLike : MethodName := ⟨RX3, "isLike", "(LLiveChanges$Solve;)Z"⟩
def RX4 : String := "LiveChanges"
def TX4 : u_T := fun k => match k with
  | 0 => ("LiveChanges", "log", "LLiveChanges$Log;", true)
  | 1 => ("LiveChanges", "latest", "LLiveChanges$Facts;", true)
  | 2 => ("LiveChanges", "others", "LLiveChanges$Facts;", true)
  | 3 => ("LiveChanges", "solves", "[LLiveChanges$Solve;", true)
  | _ => ("LiveChanges", "solveCount", "I", false)
def tyX4 : Nat → FieldType := fun k => match k with
  | 0 => .object "LiveChanges$Log"
  | 1 => .object "LiveChanges$Facts"
  | 2 => .object "LiveChanges$Facts"
  | 3 => .array (.object "LiveChanges$Solve")
  | _ => .int
abbrev wsX40 : List Cond := u_ws RX4 TX4 5
theorem nmX4 : ∀ a, a < 5 → ∀ b, b < 5 → a ≠ b → (TX4 a).2.1 ≠ (TX4 b).2.1 := by decide +kernel
theorem tyX4_ok : ∀ k, k < 5 → parseFieldDescriptor (TX4 k).2.2.1 = some (tyX4 k) := by decide +kernel
abbrev cX4_init : ByteArray := prog_1_method_1_code
def yX4_init : MethodName := ⟨RX4, "<init>", "()V"⟩
abbrev cX4_come : ByteArray := prog_1_method_2_code
def yX4_come : MethodName := ⟨RX4, "come", "(III)I"⟩
abbrev cX4_go : ByteArray := prog_1_method_3_code
def yX4_go : MethodName := ⟨RX4, "go", "(I)I"⟩
abbrev cX4_turn : ByteArray := prog_1_method_4_code
def yX4_turn : MethodName := ⟨RX4, "turn", "(IIII)I"⟩
abbrev cX4_size : ByteArray := prog_1_method_5_code
def yX4_size : MethodName := ⟨RX4, "size", "(II)I"⟩
abbrev cX4_apart : ByteArray := prog_1_method_6_code
def yX4_apart : MethodName := ⟨RX4, "apart", "(IIZ)I"⟩
abbrev cX4_lock : ByteArray := prog_1_method_7_code
def yX4_lock : MethodName := ⟨RX4, "lock", "(II)I"⟩
abbrev cX4_free : ByteArray := prog_1_method_8_code
def yX4_free : MethodName := ⟨RX4, "free", "(I)I"⟩
abbrev cX4_solve : ByteArray := prog_1_method_9_code
def yX4_solve : MethodName := ⟨RX4, "solve", "(II)I"⟩
abbrev cX4_take : ByteArray := prog_1_method_10_code
def yX4_take : MethodName := ⟨RX4, "take", "(II)I"⟩
abbrev cX4_step : ByteArray := prog_1_method_11_code
def yX4_step : MethodName := ⟨RX4, "step", "(II)I"⟩
abbrev cX4_mark : ByteArray := prog_1_method_12_code
def yX4_mark : MethodName := ⟨RX4, "mark", "(II)I"⟩
abbrev cX4_back : ByteArray := prog_1_method_13_code
def yX4_back : MethodName := ⟨RX4, "back", "(II)I"⟩
abbrev cX4_room : ByteArray := prog_1_method_14_code
def yX4_room : MethodName := ⟨RX4, "room", "(IZI)I"⟩
abbrev cX4_score : ByteArray := prog_1_method_15_code
def yX4_score : MethodName := ⟨RX4, "score", "(IZZ)I"⟩
abbrev cX4_scoreBy : ByteArray := prog_1_method_16_code
def yX4_scoreBy : MethodName := ⟨RX4, "scoreBy", "(IZZI)I"⟩
abbrev cX4_same : ByteArray := prog_1_method_17_code
def yX4_same : MethodName := ⟨RX4, "same", "(II)I"⟩
abbrev cX4_told : ByteArray := prog_1_method_18_code
def yX4_told : MethodName := ⟨RX4, "told", "(II)I"⟩
abbrev cX4_fact : ByteArray := prog_1_method_19_code
def yX4_fact : MethodName := ⟨RX4, "fact", "(I)I"⟩
abbrev cX4_change : ByteArray := prog_1_method_20_code
def yX4_change : MethodName := ⟨RX4, "change", "(I)I"⟩
abbrev cX4_enter : ByteArray := prog_1_method_21_code
def yX4_enter : MethodName := ⟨RX4, "enter", "(IIIII)I"⟩
abbrev cX4_solveOf : ByteArray := prog_1_method_22_code
def yX4_solveOf : MethodName := ⟨RX4, "solveOf", "(I)LLiveChanges$Solve;"⟩
abbrev cX4_countOf : ByteArray := prog_1_method_23_code
def yX4_countOf : MethodName := ⟨RX4, "countOf", "(I)I"⟩
abbrev cX4_traitOf : ByteArray := prog_1_method_24_code
def yX4_traitOf : MethodName := ⟨RX4, "traitOf", "(II)I"⟩
abbrev cX4_isWithin : ByteArray := prog_1_method_25_code
def yX4_isWithin : MethodName := ⟨RX4, "isWithin", "(III)Z"⟩
abbrev cX4_isRoom : ByteArray := prog_1_method_26_code
def yX4_isRoom : MethodName := ⟨RX4, "isRoom", "(I)Z"⟩
abbrev cX4_isMark : ByteArray := prog_1_method_27_code
def yX4_isMark : MethodName := ⟨RX4, "isMark", "(I)Z"⟩
abbrev cX4_areTraits : ByteArray := prog_1_method_28_code
def yX4_areTraits : MethodName := ⟨RX4, "areTraits", "(III)Z"⟩
abbrev cX4_scoreFrom : ByteArray := prog_1_method_29_code
def yX4_scoreFrom : MethodName := ⟨RX4, "scoreFrom", "(II)J"⟩
abbrev cX4_partOf : ByteArray := prog_1_method_30_code
def yX4_partOf : MethodName := ⟨RX4, "partOf", "(JZ)I"⟩
abbrev cX4_emptyPlan : ByteArray := prog_1_method_31_code
def yX4_emptyPlan : MethodName := ⟨RX4, "emptyPlan", "()[I"⟩
def RX5 : String := "LiveChangesModel"
def TX5 : u_T := fun k => match k with
  | 0 => ("LiveChangesModel", "changes", "I", false)
  | 1 => ("LiveChangesModel", "kinds", "[I", true)
  | 2 => ("LiveChangesModel", "firsts", "[I", true)
  | 3 => ("LiveChangesModel", "seconds", "[I", true)
  | 4 => ("LiveChangesModel", "thirds", "[I", true)
  | 5 => ("LiveChangesModel", "fourths", "[I", true)
  | 6 => ("LiveChangesModel", "isThere", "[Z", true)
  | 7 => ("LiveChangesModel", "length", "[I", true)
  | 8 => ("LiveChangesModel", "weight", "[I", true)
  | 9 => ("LiveChangesModel", "wish", "[I", true)
  | 10 => ("LiveChangesModel", "lockedTo", "[I", true)
  | 11 => ("LiveChangesModel", "apartOf", "[I", true)
  | 12 => ("LiveChangesModel", "roomSize", "[I", true)
  | 13 => ("LiveChangesModel", "came", "I", false)
  | 14 => ("LiveChangesModel", "rooms", "[I", true)
  | 15 => ("LiveChangesModel", "hard", "I", false)
  | 16 => ("LiveChangesModel", "soft", "I", false)
  | 17 => ("LiveChangesModel", "solves", "I", false)
  | 18 => ("LiveChangesModel", "taken", "[I", true)
  | 19 => ("LiveChangesModel", "turns", "[I", true)
  | 20 => ("LiveChangesModel", "seed", "[I", true)
  | 21 => ("LiveChangesModel", "late", "[I", true)
  | 22 => ("LiveChangesModel", "lateHard", "[I", true)
  | 23 => ("LiveChangesModel", "lateSoft", "[I", true)
  | 24 => ("LiveChangesModel", "became", "[I", true)
  | 25 => ("LiveChangesModel", "bettered", "[I", true)
  | 26 => ("LiveChangesModel", "isMarked", "[Z", true)
  | 27 => ("LiveChangesModel", "markTaken", "[I", true)
  | 28 => ("LiveChangesModel", "markHard", "[I", true)
  | _ => ("LiveChangesModel", "markSoft", "[I", true)
def tyX5 : Nat → FieldType := fun k => match k with
  | 0 => .int
  | 1 => .array .int
  | 2 => .array .int
  | 3 => .array .int
  | 4 => .array .int
  | 5 => .array .int
  | 6 => .array .boolean
  | 7 => .array .int
  | 8 => .array .int
  | 9 => .array .int
  | 10 => .array .int
  | 11 => .array .int
  | 12 => .array .int
  | 13 => .int
  | 14 => .array .int
  | 15 => .int
  | 16 => .int
  | 17 => .int
  | 18 => .array .int
  | 19 => .array .int
  | 20 => .array .int
  | 21 => .array .int
  | 22 => .array .int
  | 23 => .array .int
  | 24 => .array .int
  | 25 => .array .int
  | 26 => .array .boolean
  | 27 => .array .int
  | 28 => .array .int
  | _ => .array .int
abbrev wsX50 : List Cond := u_ws RX5 TX5 30
theorem nmX5 : ∀ a, a < 30 → ∀ b, b < 30 → a ≠ b → (TX5 a).2.1 ≠ (TX5 b).2.1 := by decide +kernel
theorem tyX5_ok : ∀ k, k < 30 → parseFieldDescriptor (TX5 k).2.2.1 = some (tyX5 k) := by decide +kernel
abbrev cX5_init : ByteArray := prog_7_method_1_code
def yX5_init : MethodName := ⟨RX5, "<init>", "()V"⟩
abbrev cX5_in : ByteArray := prog_7_method_2_code
def yX5_in : MethodName := ⟨RX5, "in", "(III)Z"⟩
abbrev cX5_forget : ByteArray := prog_7_method_3_code
def yX5_forget : MethodName := ⟨RX5, "forget", "(I)V"⟩
abbrev cX5_tell : ByteArray := prog_7_method_4_code
def yX5_tell : MethodName := ⟨RX5, "tell", "(II)V"⟩
abbrev cX5_apply : ByteArray := prog_7_method_5_code
def yX5_apply : MethodName := ⟨RX5, "apply", "(II)V"⟩
abbrev cX5_makeFacts : ByteArray := prog_7_method_6_code
def yX5_makeFacts : MethodName := ⟨RX5, "makeFacts", "(II)V"⟩
abbrev cX5_add : ByteArray := prog_7_method_7_code
def yX5_add : MethodName := ⟨RX5, "add", "(IIIII)I"⟩
abbrev cX5_isJob : ByteArray := prog_7_method_8_code
def yX5_isJob : MethodName := ⟨RX5, "isJob", "(I)Z"⟩
abbrev cX5_isTold : ByteArray := prog_7_method_9_code
def yX5_isTold : MethodName := ⟨RX5, "isTold", "(III)Z"⟩
abbrev cX5_come : ByteArray := prog_7_method_10_code
def yX5_come : MethodName := ⟨RX5, "come", "(III)I"⟩
abbrev cX5_go : ByteArray := prog_7_method_11_code
def yX5_go : MethodName := ⟨RX5, "go", "(I)I"⟩
abbrev cX5_turn : ByteArray := prog_7_method_12_code
def yX5_turn : MethodName := ⟨RX5, "turn", "(IIII)I"⟩
abbrev cX5_size : ByteArray := prog_7_method_13_code
def yX5_size : MethodName := ⟨RX5, "size", "(II)I"⟩
abbrev cX5_apart : ByteArray := prog_7_method_14_code
def yX5_apart : MethodName := ⟨RX5, "apart", "(IIZ)I"⟩
abbrev cX5_lock : ByteArray := prog_7_method_15_code
def yX5_lock : MethodName := ⟨RX5, "lock", "(II)I"⟩
abbrev cX5_free : ByteArray := prog_7_method_16_code
def yX5_free : MethodName := ⟨RX5, "free", "(I)I"⟩
abbrev cX5_judge : ByteArray := prog_7_method_17_code
def yX5_judge : MethodName := ⟨RX5, "judge", "(III)V"⟩
abbrev cX5_roomOf : ByteArray := prog_7_method_18_code
def yX5_roomOf : MethodName := ⟨RX5, "roomOf", "(III)I"⟩
abbrev cX5_isBetter : ByteArray := prog_7_method_19_code
def yX5_isBetter : MethodName := ⟨RX5, "isBetter", "(IIII)Z"⟩
abbrev cX5_copyPlan : ByteArray := prog_7_method_20_code
def yX5_copyPlan : MethodName := ⟨RX5, "copyPlan", "(II)V"⟩
abbrev cX5_isSolve : ByteArray := prog_7_method_21_code
def yX5_isSolve : MethodName := ⟨RX5, "isSolve", "(I)Z"⟩
abbrev cX5_solve : ByteArray := prog_7_method_22_code
def yX5_solve : MethodName := ⟨RX5, "solve", "(II)I"⟩
abbrev cX5_fillLate : ByteArray := prog_7_method_23_code
def yX5_fillLate : MethodName := ⟨RX5, "fillLate", "(I)V"⟩
abbrev cX5_keepBest : ByteArray := prog_7_method_24_code
def yX5_keepBest : MethodName := ⟨RX5, "keepBest", "(I)V"⟩
abbrev cX5_catchUp : ByteArray := prog_7_method_25_code
def yX5_catchUp : MethodName := ⟨RX5, "catchUp", "(II)I"⟩
abbrev cX5_take : ByteArray := prog_7_method_26_code
def yX5_take : MethodName := ⟨RX5, "take", "(II)I"⟩
abbrev cX5_nth : ByteArray := prog_7_method_27_code
def yX5_nth : MethodName := ⟨RX5, "nth", "(II)I"⟩
abbrev cX5_isFree : ByteArray := prog_7_method_28_code
def yX5_isFree : MethodName := ⟨RX5, "isFree", "(II)Z"⟩
abbrev cX5_attempt : ByteArray := prog_7_method_29_code
def yX5_attempt : MethodName := ⟨RX5, "attempt", "(I)V"⟩
abbrev cX5_step : ByteArray := prog_7_method_30_code
def yX5_step : MethodName := ⟨RX5, "step", "(II)I"⟩
abbrev cX5_mark : ByteArray := prog_7_method_31_code
def yX5_mark : MethodName := ⟨RX5, "mark", "(II)I"⟩
abbrev cX5_back : ByteArray := prog_7_method_32_code
def yX5_back : MethodName := ⟨RX5, "back", "(II)I"⟩
abbrev cX5_room : ByteArray := prog_7_method_33_code
def yX5_room : MethodName := ⟨RX5, "room", "(IZI)I"⟩
abbrev cX5_score : ByteArray := prog_7_method_34_code
def yX5_score : MethodName := ⟨RX5, "score", "(IZZ)I"⟩
abbrev cX5_scoreBy : ByteArray := prog_7_method_35_code
def yX5_scoreBy : MethodName := ⟨RX5, "scoreBy", "(IZZI)I"⟩
abbrev cX5_same : ByteArray := prog_7_method_36_code
def yX5_same : MethodName := ⟨RX5, "same", "(II)I"⟩
abbrev cX5_told : ByteArray := prog_7_method_37_code
def yX5_told : MethodName := ⟨RX5, "told", "(II)I"⟩
abbrev cX5_ofAll : ByteArray := prog_7_method_38_code
def yX5_ofAll : MethodName := ⟨RX5, "ofAll", "(I)I"⟩
abbrev cX5_fact : ByteArray := prog_7_method_39_code
def yX5_fact : MethodName := ⟨RX5, "fact", "(I)I"⟩
abbrev cX5_change : ByteArray := prog_7_method_40_code
def yX5_change : MethodName := ⟨RX5, "change", "(I)I"⟩
def RJ6 : String := "java/lang/Integer"
def TJ6 : u_T := fun k => match k with
  | _ => ("", "", "", false)
def tyJ6 : Nat → FieldType := fun k => match k with
  | _ => .int
abbrev wsJ60 : List Cond := u_ws RJ6 TJ6 0
theorem nmJ6 : ∀ a, a < 0 → ∀ b, b < 0 → a ≠ b → (TJ6 a).2.1 ≠ (TJ6 b).2.1 := by decide +kernel
theorem tyJ6_ok : ∀ k, k < 0 → parseFieldDescriptor (TJ6 k).2.2.1 = some (tyJ6 k) := by decide +kernel
abbrev cJ6_bitCount_0f7a4 : ByteArray := prog_8_method_49_code
def yJ6_bitCount_0f7a4 : MethodName := ⟨RJ6, "bitCount", "(I)I"⟩
def RJ9 : String := "java/lang/Math"
def TJ9 : u_T := fun k => match k with
  | _ => ("", "", "", false)
def tyJ9 : Nat → FieldType := fun k => match k with
  | _ => .int
abbrev wsJ90 : List Cond := u_ws RJ9 TJ9 0
theorem nmJ9 : ∀ a, a < 0 → ∀ b, b < 0 → a ≠ b → (TJ9 a).2.1 ≠ (TJ9 b).2.1 := by decide +kernel
theorem tyJ9_ok : ∀ k, k < 0 → parseFieldDescriptor (TJ9 k).2.2.1 = some (tyJ9 k) := by decide +kernel
abbrev cJ9_floorMod_7cf53 : ByteArray := prog_9_method_50_code
def yJ9_floorMod_7cf53 : MethodName := ⟨RJ9, "floorMod", "(II)I"⟩
abbrev cJ9_abs_0f7a4 : ByteArray := prog_9_method_59_code
def yJ9_abs_0f7a4 : MethodName := ⟨RJ9, "abs", "(I)I"⟩
abbrev cJ9_max_7cf53 : ByteArray := prog_9_method_65_code
def yJ9_max_7cf53 : MethodName := ⟨RJ9, "max", "(II)I"⟩
abbrev cJ9_min_7cf53 : ByteArray := prog_9_method_69_code
def yJ9_min_7cf53 : MethodName := ⟨RJ9, "min", "(II)I"⟩
def RJ10 : String := "java/lang/System"
def TJ10 : u_T := fun k => match k with
  | _ => ("", "", "", false)
def tyJ10 : Nat → FieldType := fun k => match k with
  | _ => .int
abbrev wsJ100 : List Cond := u_ws RJ10 TJ10 0
theorem nmJ10 : ∀ a, a < 0 → ∀ b, b < 0 → a ≠ b → (TJ10 a).2.1 ≠ (TJ10 b).2.1 := by decide +kernel
theorem tyJ10_ok : ∀ k, k < 0 → parseFieldDescriptor (TJ10 k).2.2.1 = some (tyJ10 k) := by decide +kernel
def RJ7 : String := "java/util/Arrays"
def TJ7 : u_T := fun k => match k with
  | _ => ("", "", "", false)
def tyJ7 : Nat → FieldType := fun k => match k with
  | _ => .int
abbrev wsJ70 : List Cond := u_ws RJ7 TJ7 0
theorem nmJ7 : ∀ a, a < 0 → ∀ b, b < 0 → a ≠ b → (TJ7 a).2.1 ≠ (TJ7 b).2.1 := by decide +kernel
theorem tyJ7_ok : ∀ k, k < 0 → parseFieldDescriptor (TJ7 k).2.2.1 = some (tyJ7 k) := by decide +kernel
abbrev cJ7_fill_d0a16 : ByteArray := prog_11_method_101_code
def yJ7_fill_d0a16 : MethodName := ⟨RJ7, "fill", "([JJ)V"⟩
abbrev cJ7_fill_53178 : ByteArray := prog_11_method_103_code
def yJ7_fill_53178 : MethodName := ⟨RJ7, "fill", "([II)V"⟩
def RL : String := "LiveChangesLaw"
abbrev cL_law : ByteArray := code
def yL_law : MethodName := ⟨RL, "law", "([I)Z"⟩
abbrev vwCl : List vw_C := [(RX0, TX0, 11), (RX1, TX1, 6), (RX2, TX2, 4), (RX3, TX3, 12), (RX4, TX4, 5), (RX5, TX5, 30)]
end
section
theorem dX0_init_0 : decode cX0_init 0 = .ok (.aload_n 0, 1) := by decide +kernel
theorem dX0_init_1 : decode cX0_init 1 = .ok (.invokespecial 3, 3) := by decide +kernel
theorem dX0_init_4 : decode cX0_init 4 = .ok (.aload_n 0, 1) := by decide +kernel
theorem dX0_init_5 : decode cX0_init 5 = .ok (.bipush 16, 2) := by decide +kernel
theorem dX0_init_7 : decode cX0_init 7 = .ok (.newarray .boolean, 2) := by decide +kernel
theorem dX0_init_9 : decode cX0_init 9 = .ok (.putfield 9, 3) := by decide +kernel
theorem dX0_init_12 : decode cX0_init 12 = .ok (.aload_n 0, 1) := by decide +kernel
theorem dX0_init_13 : decode cX0_init 13 = .ok (.bipush 16, 2) := by decide +kernel
theorem dX0_init_15 : decode cX0_init 15 = .ok (.newarray .int, 2) := by decide +kernel
theorem dX0_init_17 : decode cX0_init 17 = .ok (.putfield 15, 3) := by decide +kernel
theorem dX0_init_20 : decode cX0_init 20 = .ok (.aload_n 0, 1) := by decide +kernel
theorem dX0_init_21 : decode cX0_init 21 = .ok (.bipush 16, 2) := by decide +kernel
theorem dX0_init_23 : decode cX0_init 23 = .ok (.newarray .int, 2) := by decide +kernel
theorem dX0_init_25 : decode cX0_init 25 = .ok (.putfield 19, 3) := by decide +kernel
theorem dX0_init_28 : decode cX0_init 28 = .ok (.aload_n 0, 1) := by decide +kernel
theorem dX0_init_29 : decode cX0_init 29 = .ok (.bipush 16, 2) := by decide +kernel
theorem dX0_init_31 : decode cX0_init 31 = .ok (.newarray .int, 2) := by decide +kernel
theorem dX0_init_33 : decode cX0_init 33 = .ok (.putfield 22, 3) := by decide +kernel
theorem dX0_init_36 : decode cX0_init 36 = .ok (.aload_n 0, 1) := by decide +kernel
theorem dX0_init_37 : decode cX0_init 37 = .ok (.bipush 16, 2) := by decide +kernel
theorem dX0_init_39 : decode cX0_init 39 = .ok (.newarray .int, 2) := by decide +kernel
theorem dX0_init_41 : decode cX0_init 41 = .ok (.putfield 25, 3) := by decide +kernel
theorem dX0_init_44 : decode cX0_init 44 = .ok (.aload_n 0, 1) := by decide +kernel
theorem dX0_init_45 : decode cX0_init 45 = .ok (.bipush 16, 2) := by decide +kernel
theorem dX0_init_47 : decode cX0_init 47 = .ok (.newarray .int, 2) := by decide +kernel
theorem dX0_init_49 : decode cX0_init 49 = .ok (.putfield 28, 3) := by decide +kernel
theorem dX0_init_52 : decode cX0_init 52 = .ok (.aload_n 0, 1) := by decide +kernel
theorem dX0_init_53 : decode cX0_init 53 = .ok (.bipush 6, 2) := by decide +kernel
theorem dX0_init_55 : decode cX0_init 55 = .ok (.newarray .int, 2) := by decide +kernel
theorem dX0_init_57 : decode cX0_init 57 = .ok (.putfield 31, 3) := by decide +kernel
theorem dX0_init_60 : decode cX0_init 60 = .ok (.aload_n 0, 1) := by decide +kernel
theorem dX0_init_61 : decode cX0_init 61 = .ok (.bipush 6, 2) := by decide +kernel
theorem dX0_init_63 : decode cX0_init 63 = .ok (.newarray .int, 2) := by decide +kernel
theorem dX0_init_65 : decode cX0_init 65 = .ok (.putfield 34, 3) := by decide +kernel
theorem dX0_init_68 : decode cX0_init 68 = .ok (.aload_n 0, 1) := by decide +kernel
theorem dX0_init_69 : decode cX0_init 69 = .ok (.bipush 6, 2) := by decide +kernel
theorem dX0_init_71 : decode cX0_init 71 = .ok (.newarray .int, 2) := by decide +kernel
theorem dX0_init_73 : decode cX0_init 73 = .ok (.putfield 37, 3) := by decide +kernel
theorem dX0_init_76 : decode cX0_init 76 = .ok (.aload_n 0, 1) := by decide +kernel
theorem dX0_init_77 : decode cX0_init 77 = .ok (.invokevirtual 40, 3) := by decide +kernel
theorem dX0_init_80 : decode cX0_init 80 = .ok (.return_, 1) := by decide +kernel
theorem dX0_clear_0 : decode cX0_clear 0 = .ok (.aload_n 0, 1) := by decide +kernel
theorem dX0_clear_1 : decode cX0_clear 1 = .ok (.iconst 0, 1) := by decide +kernel
theorem dX0_clear_2 : decode cX0_clear 2 = .ok (.putfield 43, 3) := by decide +kernel
theorem dX0_clear_5 : decode cX0_clear 5 = .ok (.aload_n 0, 1) := by decide +kernel
theorem dX0_clear_6 : decode cX0_clear 6 = .ok (.iconst 0, 1) := by decide +kernel
theorem dX0_clear_7 : decode cX0_clear 7 = .ok (.putfield 47, 3) := by decide +kernel
theorem dX0_clear_10 : decode cX0_clear 10 = .ok (.iconst 0, 1) := by decide +kernel
theorem dX0_clear_11 : decode cX0_clear 11 = .ok (.istore_n 1, 1) := by decide +kernel
theorem dX0_clear_12 : decode cX0_clear 12 = .ok (.iload_n 1, 1) := by decide +kernel
theorem dX0_clear_13 : decode cX0_clear 13 = .ok (.bipush 16, 2) := by decide +kernel
theorem dX0_clear_15 : decode cX0_clear 15 = .ok (.if_icmp .ge 31, 3) := by decide +kernel
theorem dX0_clear_18 : decode cX0_clear 18 = .ok (.aload_n 0, 1) := by decide +kernel
theorem dX0_clear_19 : decode cX0_clear 19 = .ok (.getfield 9, 3) := by decide +kernel
theorem dX0_clear_22 : decode cX0_clear 22 = .ok (.iload_n 1, 1) := by decide +kernel
theorem dX0_clear_23 : decode cX0_clear 23 = .ok (.iconst 0, 1) := by decide +kernel
theorem dX0_clear_24 : decode cX0_clear 24 = .ok (.bastore, 1) := by decide +kernel
theorem dX0_clear_25 : decode cX0_clear 25 = .ok (.aload_n 0, 1) := by decide +kernel
theorem dX0_clear_26 : decode cX0_clear 26 = .ok (.getfield 25, 3) := by decide +kernel
theorem dX0_clear_29 : decode cX0_clear 29 = .ok (.iload_n 1, 1) := by decide +kernel
theorem dX0_clear_30 : decode cX0_clear 30 = .ok (.bipush (-2), 2) := by decide +kernel
theorem dX0_clear_32 : decode cX0_clear 32 = .ok (.iastore, 1) := by decide +kernel
theorem dX0_clear_33 : decode cX0_clear 33 = .ok (.aload_n 0, 1) := by decide +kernel
theorem dX0_clear_34 : decode cX0_clear 34 = .ok (.getfield 28, 3) := by decide +kernel
theorem dX0_clear_37 : decode cX0_clear 37 = .ok (.iload_n 1, 1) := by decide +kernel
theorem dX0_clear_38 : decode cX0_clear 38 = .ok (.iconst 0, 1) := by decide +kernel
theorem dX0_clear_39 : decode cX0_clear 39 = .ok (.iastore, 1) := by decide +kernel
theorem dX0_clear_40 : decode cX0_clear 40 = .ok (.iinc 1 1, 3) := by decide +kernel
theorem dX0_clear_43 : decode cX0_clear 43 = .ok (.goto (-31), 3) := by decide +kernel
theorem dX0_clear_46 : decode cX0_clear 46 = .ok (.aload_n 0, 1) := by decide +kernel
theorem dX0_clear_47 : decode cX0_clear 47 = .ok (.getfield 31, 3) := by decide +kernel
theorem dX0_clear_50 : decode cX0_clear 50 = .ok (.bipush 100, 2) := by decide +kernel
theorem dX0_clear_52 : decode cX0_clear 52 = .ok (.invokestatic 50, 3) := by decide +kernel
theorem dX0_clear_55 : decode cX0_clear 55 = .ok (.return_, 1) := by decide +kernel
theorem dX0_become_0 : decode cX0_become 0 = .ok (.iload_n 2, 1) := by decide +kernel
theorem dX0_become_1 : decode cX0_become 1 = .ok (.aload_n 0, 1) := by decide +kernel
theorem dX0_become_2 : decode cX0_become 2 = .ok (.getfield 43, 3) := by decide +kernel
theorem dX0_become_5 : decode cX0_become 5 = .ok (.if_icmp .ge 7, 3) := by decide +kernel
theorem dX0_become_8 : decode cX0_become 8 = .ok (.aload_n 0, 1) := by decide +kernel
theorem dX0_become_9 : decode cX0_become 9 = .ok (.invokevirtual 40, 3) := by decide +kernel
theorem dX0_become_12 : decode cX0_become 12 = .ok (.iload_n 2, 1) := by decide +kernel
theorem dX0_become_13 : decode cX0_become 13 = .ok (.aload_n 1, 1) := by decide +kernel
theorem dX0_become_14 : decode cX0_become 14 = .ok (.getfield 56, 3) := by decide +kernel
theorem dX0_become_17 : decode cX0_become 17 = .ok (.invokestatic 61, 3) := by decide +kernel
theorem dX0_become_20 : decode cX0_become 20 = .ok (.istore_n 3, 1) := by decide +kernel
theorem dX0_become_21 : decode cX0_become 21 = .ok (.aload_n 0, 1) := by decide +kernel
theorem dX0_become_22 : decode cX0_become 22 = .ok (.getfield 43, 3) := by decide +kernel
theorem dX0_become_25 : decode cX0_become 25 = .ok (.istore 4, 2) := by decide +kernel
theorem dX0_become_27 : decode cX0_become 27 = .ok (.iload 4, 2) := by decide +kernel
theorem dX0_become_29 : decode cX0_become 29 = .ok (.iload_n 3, 1) := by decide +kernel
theorem dX0_become_30 : decode cX0_become 30 = .ok (.if_icmp .ge 16, 3) := by decide +kernel
theorem dX0_become_33 : decode cX0_become 33 = .ok (.aload_n 0, 1) := by decide +kernel
theorem dX0_become_34 : decode cX0_become 34 = .ok (.aload_n 1, 1) := by decide +kernel
theorem dX0_become_35 : decode cX0_become 35 = .ok (.iload 4, 2) := by decide +kernel
theorem dX0_become_37 : decode cX0_become 37 = .ok (.invokevirtual 67, 3) := by decide +kernel
theorem dX0_become_40 : decode cX0_become 40 = .ok (.iinc 4 1, 3) := by decide +kernel
theorem dX0_become_43 : decode cX0_become 43 = .ok (.goto (-16), 3) := by decide +kernel
theorem dX0_become_46 : decode cX0_become 46 = .ok (.return_, 1) := by decide +kernel
theorem dX0_learn_0 : decode cX0_learn 0 = .ok (.aload_n 1, 1) := by decide +kernel
theorem dX0_learn_1 : decode cX0_learn 1 = .ok (.getfield 71, 3) := by decide +kernel
theorem dX0_learn_4 : decode cX0_learn 4 = .ok (.iload_n 2, 1) := by decide +kernel
theorem dX0_learn_5 : decode cX0_learn 5 = .ok (.iaload, 1) := by decide +kernel
theorem dX0_learn_6 : decode cX0_learn 6 = .ok (.iconst 3, 1) := by decide +kernel
theorem dX0_learn_7 : decode cX0_learn 7 = .ok (.if_icmp .ne 23, 3) := by decide +kernel
theorem dX0_learn_10 : decode cX0_learn 10 = .ok (.aload_n 0, 1) := by decide +kernel
theorem dX0_learn_11 : decode cX0_learn 11 = .ok (.getfield 31, 3) := by decide +kernel
theorem dX0_learn_14 : decode cX0_learn 14 = .ok (.aload_n 1, 1) := by decide +kernel
theorem dX0_learn_15 : decode cX0_learn 15 = .ok (.getfield 74, 3) := by decide +kernel
theorem dX0_learn_18 : decode cX0_learn 18 = .ok (.iload_n 2, 1) := by decide +kernel
theorem dX0_learn_19 : decode cX0_learn 19 = .ok (.iaload, 1) := by decide +kernel
theorem dX0_learn_20 : decode cX0_learn 20 = .ok (.aload_n 1, 1) := by decide +kernel
theorem dX0_learn_21 : decode cX0_learn 21 = .ok (.getfield 77, 3) := by decide +kernel
theorem dX0_learn_24 : decode cX0_learn 24 = .ok (.iload_n 2, 1) := by decide +kernel
theorem dX0_learn_25 : decode cX0_learn 25 = .ok (.iaload, 1) := by decide +kernel
theorem dX0_learn_26 : decode cX0_learn 26 = .ok (.iastore, 1) := by decide +kernel
theorem dX0_learn_27 : decode cX0_learn 27 = .ok (.goto 15, 3) := by decide +kernel
theorem dX0_learn_30 : decode cX0_learn 30 = .ok (.aload_n 0, 1) := by decide +kernel
theorem dX0_learn_31 : decode cX0_learn 31 = .ok (.aload_n 1, 1) := by decide +kernel
theorem dX0_learn_32 : decode cX0_learn 32 = .ok (.iload_n 2, 1) := by decide +kernel
theorem dX0_learn_33 : decode cX0_learn 33 = .ok (.aload_n 1, 1) := by decide +kernel
theorem dX0_learn_34 : decode cX0_learn 34 = .ok (.getfield 74, 3) := by decide +kernel
theorem dX0_learn_37 : decode cX0_learn 37 = .ok (.iload_n 2, 1) := by decide +kernel
theorem dX0_learn_38 : decode cX0_learn 38 = .ok (.iaload, 1) := by decide +kernel
theorem dX0_learn_39 : decode cX0_learn 39 = .ok (.invokevirtual 80, 3) := by decide +kernel
theorem dX0_learn_42 : decode cX0_learn 42 = .ok (.aload_n 0, 1) := by decide +kernel
theorem dX0_learn_43 : decode cX0_learn 43 = .ok (.iload_n 2, 1) := by decide +kernel
theorem dX0_learn_44 : decode cX0_learn 44 = .ok (.iconst 1, 1) := by decide +kernel
theorem dX0_learn_45 : decode cX0_learn 45 = .ok (.iadd, 1) := by decide +kernel
theorem dX0_learn_46 : decode cX0_learn 46 = .ok (.putfield 43, 3) := by decide +kernel
theorem dX0_learn_49 : decode cX0_learn 49 = .ok (.return_, 1) := by decide +kernel
theorem dX0_learnOfJob_0 : decode cX0_learnOfJob 0 = .ok (.aload_n 1, 1) := by decide +kernel
theorem dX0_learnOfJob_1 : decode cX0_learnOfJob 1 = .ok (.getfield 71, 3) := by decide +kernel
theorem dX0_learnOfJob_4 : decode cX0_learnOfJob 4 = .ok (.iload_n 2, 1) := by decide +kernel
theorem dX0_learnOfJob_5 : decode cX0_learnOfJob 5 = .ok (.iaload, 1) := by decide +kernel
theorem dX0_learnOfJob_6 : decode cX0_learnOfJob 6 = .ok (.tableswitch 144 0 7 #[46, 70, 78, 144, 88, 103, 118, 133], 46) := by decide +kernel
theorem dX0_learnOfJob_52 : decode cX0_learnOfJob 52 = .ok (.aload_n 0, 1) := by decide +kernel
theorem dX0_learnOfJob_53 : decode cX0_learnOfJob 53 = .ok (.getfield 9, 3) := by decide +kernel
theorem dX0_learnOfJob_56 : decode cX0_learnOfJob 56 = .ok (.iload_n 3, 1) := by decide +kernel
theorem dX0_learnOfJob_57 : decode cX0_learnOfJob 57 = .ok (.iconst 1, 1) := by decide +kernel
theorem dX0_learnOfJob_58 : decode cX0_learnOfJob 58 = .ok (.bastore, 1) := by decide +kernel
theorem dX0_learnOfJob_59 : decode cX0_learnOfJob 59 = .ok (.aload_n 0, 1) := by decide +kernel
theorem dX0_learnOfJob_60 : decode cX0_learnOfJob 60 = .ok (.iload_n 3, 1) := by decide +kernel
theorem dX0_learnOfJob_61 : decode cX0_learnOfJob 61 = .ok (.iconst 1, 1) := by decide +kernel
theorem dX0_learnOfJob_62 : decode cX0_learnOfJob 62 = .ok (.iadd, 1) := by decide +kernel
theorem dX0_learnOfJob_63 : decode cX0_learnOfJob 63 = .ok (.putfield 47, 3) := by decide +kernel
theorem dX0_learnOfJob_66 : decode cX0_learnOfJob 66 = .ok (.aload_n 0, 1) := by decide +kernel
theorem dX0_learnOfJob_67 : decode cX0_learnOfJob 67 = .ok (.aload_n 1, 1) := by decide +kernel
theorem dX0_learnOfJob_68 : decode cX0_learnOfJob 68 = .ok (.iload_n 2, 1) := by decide +kernel
theorem dX0_learnOfJob_69 : decode cX0_learnOfJob 69 = .ok (.iload_n 3, 1) := by decide +kernel
theorem dX0_learnOfJob_70 : decode cX0_learnOfJob 70 = .ok (.invokevirtual 84, 3) := by decide +kernel
theorem dX0_learnOfJob_73 : decode cX0_learnOfJob 73 = .ok (.goto 77, 3) := by decide +kernel
theorem dX0_learnOfJob_76 : decode cX0_learnOfJob 76 = .ok (.aload_n 0, 1) := by decide +kernel
theorem dX0_learnOfJob_77 : decode cX0_learnOfJob 77 = .ok (.iload_n 3, 1) := by decide +kernel
theorem dX0_learnOfJob_78 : decode cX0_learnOfJob 78 = .ok (.invokevirtual 87, 3) := by decide +kernel
theorem dX0_learnOfJob_81 : decode cX0_learnOfJob 81 = .ok (.goto 69, 3) := by decide +kernel
theorem dX0_learnOfJob_84 : decode cX0_learnOfJob 84 = .ok (.aload_n 0, 1) := by decide +kernel
theorem dX0_learnOfJob_85 : decode cX0_learnOfJob 85 = .ok (.aload_n 1, 1) := by decide +kernel
theorem dX0_learnOfJob_86 : decode cX0_learnOfJob 86 = .ok (.iload_n 2, 1) := by decide +kernel
theorem dX0_learnOfJob_87 : decode cX0_learnOfJob 87 = .ok (.iload_n 3, 1) := by decide +kernel
theorem dX0_learnOfJob_88 : decode cX0_learnOfJob 88 = .ok (.invokevirtual 84, 3) := by decide +kernel
theorem dX0_learnOfJob_91 : decode cX0_learnOfJob 91 = .ok (.goto 59, 3) := by decide +kernel
theorem dX0_learnOfJob_94 : decode cX0_learnOfJob 94 = .ok (.aload_n 0, 1) := by decide +kernel
theorem dX0_learnOfJob_95 : decode cX0_learnOfJob 95 = .ok (.iload_n 3, 1) := by decide +kernel
theorem dX0_learnOfJob_96 : decode cX0_learnOfJob 96 = .ok (.aload_n 1, 1) := by decide +kernel
theorem dX0_learnOfJob_97 : decode cX0_learnOfJob 97 = .ok (.getfield 77, 3) := by decide +kernel
theorem dX0_learnOfJob_100 : decode cX0_learnOfJob 100 = .ok (.iload_n 2, 1) := by decide +kernel
theorem dX0_learnOfJob_101 : decode cX0_learnOfJob 101 = .ok (.iaload, 1) := by decide +kernel
theorem dX0_learnOfJob_102 : decode cX0_learnOfJob 102 = .ok (.iconst 1, 1) := by decide +kernel
theorem dX0_learnOfJob_103 : decode cX0_learnOfJob 103 = .ok (.invokevirtual 91, 3) := by decide +kernel
theorem dX0_learnOfJob_106 : decode cX0_learnOfJob 106 = .ok (.goto 44, 3) := by decide +kernel
theorem dX0_learnOfJob_109 : decode cX0_learnOfJob 109 = .ok (.aload_n 0, 1) := by decide +kernel
theorem dX0_learnOfJob_110 : decode cX0_learnOfJob 110 = .ok (.iload_n 3, 1) := by decide +kernel
theorem dX0_learnOfJob_111 : decode cX0_learnOfJob 111 = .ok (.aload_n 1, 1) := by decide +kernel
theorem dX0_learnOfJob_112 : decode cX0_learnOfJob 112 = .ok (.getfield 77, 3) := by decide +kernel
theorem dX0_learnOfJob_115 : decode cX0_learnOfJob 115 = .ok (.iload_n 2, 1) := by decide +kernel
theorem dX0_learnOfJob_116 : decode cX0_learnOfJob 116 = .ok (.iaload, 1) := by decide +kernel
theorem dX0_learnOfJob_117 : decode cX0_learnOfJob 117 = .ok (.iconst 0, 1) := by decide +kernel
theorem dX0_learnOfJob_118 : decode cX0_learnOfJob 118 = .ok (.invokevirtual 91, 3) := by decide +kernel
theorem dX0_learnOfJob_121 : decode cX0_learnOfJob 121 = .ok (.goto 29, 3) := by decide +kernel
theorem dX0_learnOfJob_124 : decode cX0_learnOfJob 124 = .ok (.aload_n 0, 1) := by decide +kernel
theorem dX0_learnOfJob_125 : decode cX0_learnOfJob 125 = .ok (.getfield 25, 3) := by decide +kernel
theorem dX0_learnOfJob_128 : decode cX0_learnOfJob 128 = .ok (.iload_n 3, 1) := by decide +kernel
theorem dX0_learnOfJob_129 : decode cX0_learnOfJob 129 = .ok (.aload_n 1, 1) := by decide +kernel
theorem dX0_learnOfJob_130 : decode cX0_learnOfJob 130 = .ok (.getfield 77, 3) := by decide +kernel
theorem dX0_learnOfJob_133 : decode cX0_learnOfJob 133 = .ok (.iload_n 2, 1) := by decide +kernel
theorem dX0_learnOfJob_134 : decode cX0_learnOfJob 134 = .ok (.iaload, 1) := by decide +kernel
theorem dX0_learnOfJob_135 : decode cX0_learnOfJob 135 = .ok (.iastore, 1) := by decide +kernel
theorem dX0_learnOfJob_136 : decode cX0_learnOfJob 136 = .ok (.goto 14, 3) := by decide +kernel
theorem dX0_learnOfJob_139 : decode cX0_learnOfJob 139 = .ok (.aload_n 0, 1) := by decide +kernel
theorem dX0_learnOfJob_140 : decode cX0_learnOfJob 140 = .ok (.getfield 25, 3) := by decide +kernel
theorem dX0_learnOfJob_143 : decode cX0_learnOfJob 143 = .ok (.iload_n 3, 1) := by decide +kernel
theorem dX0_learnOfJob_144 : decode cX0_learnOfJob 144 = .ok (.bipush (-2), 2) := by decide +kernel
theorem dX0_learnOfJob_146 : decode cX0_learnOfJob 146 = .ok (.iastore, 1) := by decide +kernel
theorem dX0_learnOfJob_147 : decode cX0_learnOfJob 147 = .ok (.goto 3, 3) := by decide +kernel
theorem dX0_learnOfJob_150 : decode cX0_learnOfJob 150 = .ok (.return_, 1) := by decide +kernel
theorem dX0_setTraits_0 : decode cX0_setTraits 0 = .ok (.aload_n 0, 1) := by decide +kernel
theorem dX0_setTraits_1 : decode cX0_setTraits 1 = .ok (.getfield 15, 3) := by decide +kernel
theorem dX0_setTraits_4 : decode cX0_setTraits 4 = .ok (.iload_n 3, 1) := by decide +kernel
theorem dX0_setTraits_5 : decode cX0_setTraits 5 = .ok (.aload_n 1, 1) := by decide +kernel
theorem dX0_setTraits_6 : decode cX0_setTraits 6 = .ok (.getfield 77, 3) := by decide +kernel
theorem dX0_setTraits_9 : decode cX0_setTraits 9 = .ok (.iload_n 2, 1) := by decide +kernel
theorem dX0_setTraits_10 : decode cX0_setTraits 10 = .ok (.iaload, 1) := by decide +kernel
theorem dX0_setTraits_11 : decode cX0_setTraits 11 = .ok (.iastore, 1) := by decide +kernel
theorem dX0_setTraits_12 : decode cX0_setTraits 12 = .ok (.aload_n 0, 1) := by decide +kernel
theorem dX0_setTraits_13 : decode cX0_setTraits 13 = .ok (.getfield 19, 3) := by decide +kernel
theorem dX0_setTraits_16 : decode cX0_setTraits 16 = .ok (.iload_n 3, 1) := by decide +kernel
theorem dX0_setTraits_17 : decode cX0_setTraits 17 = .ok (.aload_n 1, 1) := by decide +kernel
theorem dX0_setTraits_18 : decode cX0_setTraits 18 = .ok (.getfield 95, 3) := by decide +kernel
theorem dX0_setTraits_21 : decode cX0_setTraits 21 = .ok (.iload_n 2, 1) := by decide +kernel
theorem dX0_setTraits_22 : decode cX0_setTraits 22 = .ok (.iaload, 1) := by decide +kernel
theorem dX0_setTraits_23 : decode cX0_setTraits 23 = .ok (.iastore, 1) := by decide +kernel
theorem dX0_setTraits_24 : decode cX0_setTraits 24 = .ok (.aload_n 0, 1) := by decide +kernel
theorem dX0_setTraits_25 : decode cX0_setTraits 25 = .ok (.getfield 22, 3) := by decide +kernel
theorem dX0_setTraits_28 : decode cX0_setTraits 28 = .ok (.iload_n 3, 1) := by decide +kernel
theorem dX0_setTraits_29 : decode cX0_setTraits 29 = .ok (.aload_n 1, 1) := by decide +kernel
theorem dX0_setTraits_30 : decode cX0_setTraits 30 = .ok (.getfield 98, 3) := by decide +kernel
theorem dX0_setTraits_33 : decode cX0_setTraits 33 = .ok (.iload_n 2, 1) := by decide +kernel
theorem dX0_setTraits_34 : decode cX0_setTraits 34 = .ok (.iaload, 1) := by decide +kernel
theorem dX0_setTraits_35 : decode cX0_setTraits 35 = .ok (.iastore, 1) := by decide +kernel
theorem dX0_setTraits_36 : decode cX0_setTraits 36 = .ok (.return_, 1) := by decide +kernel
theorem dX0_leave_0 : decode cX0_leave 0 = .ok (.aload_n 0, 1) := by decide +kernel
theorem dX0_leave_1 : decode cX0_leave 1 = .ok (.getfield 9, 3) := by decide +kernel
theorem dX0_leave_4 : decode cX0_leave 4 = .ok (.iload_n 1, 1) := by decide +kernel
theorem dX0_leave_5 : decode cX0_leave 5 = .ok (.iconst 0, 1) := by decide +kernel
theorem dX0_leave_6 : decode cX0_leave 6 = .ok (.bastore, 1) := by decide +kernel
theorem dX0_leave_7 : decode cX0_leave 7 = .ok (.aload_n 0, 1) := by decide +kernel
theorem dX0_leave_8 : decode cX0_leave 8 = .ok (.getfield 25, 3) := by decide +kernel
theorem dX0_leave_11 : decode cX0_leave 11 = .ok (.iload_n 1, 1) := by decide +kernel
theorem dX0_leave_12 : decode cX0_leave 12 = .ok (.bipush (-2), 2) := by decide +kernel
theorem dX0_leave_14 : decode cX0_leave 14 = .ok (.iastore, 1) := by decide +kernel
theorem dX0_leave_15 : decode cX0_leave 15 = .ok (.aload_n 0, 1) := by decide +kernel
theorem dX0_leave_16 : decode cX0_leave 16 = .ok (.getfield 28, 3) := by decide +kernel
theorem dX0_leave_19 : decode cX0_leave 19 = .ok (.iload_n 1, 1) := by decide +kernel
theorem dX0_leave_20 : decode cX0_leave 20 = .ok (.iconst 0, 1) := by decide +kernel
theorem dX0_leave_21 : decode cX0_leave 21 = .ok (.iastore, 1) := by decide +kernel
theorem dX0_leave_22 : decode cX0_leave 22 = .ok (.iconst 0, 1) := by decide +kernel
theorem dX0_leave_23 : decode cX0_leave 23 = .ok (.istore_n 2, 1) := by decide +kernel
theorem dX0_leave_24 : decode cX0_leave 24 = .ok (.iload_n 2, 1) := by decide +kernel
theorem dX0_leave_25 : decode cX0_leave 25 = .ok (.bipush 16, 2) := by decide +kernel
theorem dX0_leave_27 : decode cX0_leave 27 = .ok (.if_icmp .ge 23, 3) := by decide +kernel
theorem dX0_leave_30 : decode cX0_leave 30 = .ok (.aload_n 0, 1) := by decide +kernel
theorem dX0_leave_31 : decode cX0_leave 31 = .ok (.getfield 28, 3) := by decide +kernel
theorem dX0_leave_34 : decode cX0_leave 34 = .ok (.iload_n 2, 1) := by decide +kernel
theorem dX0_leave_35 : decode cX0_leave 35 = .ok (.dup2, 1) := by decide +kernel
theorem dX0_leave_36 : decode cX0_leave 36 = .ok (.iaload, 1) := by decide +kernel
theorem dX0_leave_37 : decode cX0_leave 37 = .ok (.iconst 1, 1) := by decide +kernel
theorem dX0_leave_38 : decode cX0_leave 38 = .ok (.iload_n 1, 1) := by decide +kernel
theorem dX0_leave_39 : decode cX0_leave 39 = .ok (.ishl, 1) := by decide +kernel
theorem dX0_leave_40 : decode cX0_leave 40 = .ok (.iconst (-1), 1) := by decide +kernel
theorem dX0_leave_41 : decode cX0_leave 41 = .ok (.ixor, 1) := by decide +kernel
theorem dX0_leave_42 : decode cX0_leave 42 = .ok (.iand, 1) := by decide +kernel
theorem dX0_leave_43 : decode cX0_leave 43 = .ok (.iastore, 1) := by decide +kernel
theorem dX0_leave_44 : decode cX0_leave 44 = .ok (.iinc 2 1, 3) := by decide +kernel
theorem dX0_leave_47 : decode cX0_leave 47 = .ok (.goto (-23), 3) := by decide +kernel
theorem dX0_leave_50 : decode cX0_leave 50 = .ok (.return_, 1) := by decide +kernel
theorem dX0_setApart_0 : decode cX0_setApart 0 = .ok (.iload_n 3, 1) := by decide +kernel
theorem dX0_setApart_1 : decode cX0_setApart 1 = .ok (.ifCond .eq 30, 3) := by decide +kernel
theorem dX0_setApart_4 : decode cX0_setApart 4 = .ok (.aload_n 0, 1) := by decide +kernel
theorem dX0_setApart_5 : decode cX0_setApart 5 = .ok (.getfield 28, 3) := by decide +kernel
theorem dX0_setApart_8 : decode cX0_setApart 8 = .ok (.iload_n 1, 1) := by decide +kernel
theorem dX0_setApart_9 : decode cX0_setApart 9 = .ok (.dup2, 1) := by decide +kernel
theorem dX0_setApart_10 : decode cX0_setApart 10 = .ok (.iaload, 1) := by decide +kernel
theorem dX0_setApart_11 : decode cX0_setApart 11 = .ok (.iconst 1, 1) := by decide +kernel
theorem dX0_setApart_12 : decode cX0_setApart 12 = .ok (.iload_n 2, 1) := by decide +kernel
theorem dX0_setApart_13 : decode cX0_setApart 13 = .ok (.ishl, 1) := by decide +kernel
theorem dX0_setApart_14 : decode cX0_setApart 14 = .ok (.ior, 1) := by decide +kernel
theorem dX0_setApart_15 : decode cX0_setApart 15 = .ok (.iastore, 1) := by decide +kernel
theorem dX0_setApart_16 : decode cX0_setApart 16 = .ok (.aload_n 0, 1) := by decide +kernel
theorem dX0_setApart_17 : decode cX0_setApart 17 = .ok (.getfield 28, 3) := by decide +kernel
theorem dX0_setApart_20 : decode cX0_setApart 20 = .ok (.iload_n 2, 1) := by decide +kernel
theorem dX0_setApart_21 : decode cX0_setApart 21 = .ok (.dup2, 1) := by decide +kernel
theorem dX0_setApart_22 : decode cX0_setApart 22 = .ok (.iaload, 1) := by decide +kernel
theorem dX0_setApart_23 : decode cX0_setApart 23 = .ok (.iconst 1, 1) := by decide +kernel
theorem dX0_setApart_24 : decode cX0_setApart 24 = .ok (.iload_n 1, 1) := by decide +kernel
theorem dX0_setApart_25 : decode cX0_setApart 25 = .ok (.ishl, 1) := by decide +kernel
theorem dX0_setApart_26 : decode cX0_setApart 26 = .ok (.ior, 1) := by decide +kernel
theorem dX0_setApart_27 : decode cX0_setApart 27 = .ok (.iastore, 1) := by decide +kernel
theorem dX0_setApart_28 : decode cX0_setApart 28 = .ok (.goto 31, 3) := by decide +kernel
theorem dX0_setApart_31 : decode cX0_setApart 31 = .ok (.aload_n 0, 1) := by decide +kernel
theorem dX0_setApart_32 : decode cX0_setApart 32 = .ok (.getfield 28, 3) := by decide +kernel
theorem dX0_setApart_35 : decode cX0_setApart 35 = .ok (.iload_n 1, 1) := by decide +kernel
theorem dX0_setApart_36 : decode cX0_setApart 36 = .ok (.dup2, 1) := by decide +kernel
theorem dX0_setApart_37 : decode cX0_setApart 37 = .ok (.iaload, 1) := by decide +kernel
theorem dX0_setApart_38 : decode cX0_setApart 38 = .ok (.iconst 1, 1) := by decide +kernel
theorem dX0_setApart_39 : decode cX0_setApart 39 = .ok (.iload_n 2, 1) := by decide +kernel
theorem dX0_setApart_40 : decode cX0_setApart 40 = .ok (.ishl, 1) := by decide +kernel
theorem dX0_setApart_41 : decode cX0_setApart 41 = .ok (.iconst (-1), 1) := by decide +kernel
theorem dX0_setApart_42 : decode cX0_setApart 42 = .ok (.ixor, 1) := by decide +kernel
theorem dX0_setApart_43 : decode cX0_setApart 43 = .ok (.iand, 1) := by decide +kernel
theorem dX0_setApart_44 : decode cX0_setApart 44 = .ok (.iastore, 1) := by decide +kernel
theorem dX0_setApart_45 : decode cX0_setApart 45 = .ok (.aload_n 0, 1) := by decide +kernel
theorem dX0_setApart_46 : decode cX0_setApart 46 = .ok (.getfield 28, 3) := by decide +kernel
theorem dX0_setApart_49 : decode cX0_setApart 49 = .ok (.iload_n 2, 1) := by decide +kernel
theorem dX0_setApart_50 : decode cX0_setApart 50 = .ok (.dup2, 1) := by decide +kernel
theorem dX0_setApart_51 : decode cX0_setApart 51 = .ok (.iaload, 1) := by decide +kernel
theorem dX0_setApart_52 : decode cX0_setApart 52 = .ok (.iconst 1, 1) := by decide +kernel
theorem dX0_setApart_53 : decode cX0_setApart 53 = .ok (.iload_n 1, 1) := by decide +kernel
theorem dX0_setApart_54 : decode cX0_setApart 54 = .ok (.ishl, 1) := by decide +kernel
theorem dX0_setApart_55 : decode cX0_setApart 55 = .ok (.iconst (-1), 1) := by decide +kernel
theorem dX0_setApart_56 : decode cX0_setApart 56 = .ok (.ixor, 1) := by decide +kernel
theorem dX0_setApart_57 : decode cX0_setApart 57 = .ok (.iand, 1) := by decide +kernel
theorem dX0_setApart_58 : decode cX0_setApart 58 = .ok (.iastore, 1) := by decide +kernel
theorem dX0_setApart_59 : decode cX0_setApart 59 = .ok (.return_, 1) := by decide +kernel
theorem dX0_areApart_0 : decode cX0_areApart 0 = .ok (.aload_n 0, 1) := by decide +kernel
theorem dX0_areApart_1 : decode cX0_areApart 1 = .ok (.getfield 28, 3) := by decide +kernel
theorem dX0_areApart_4 : decode cX0_areApart 4 = .ok (.iload_n 1, 1) := by decide +kernel
theorem dX0_areApart_5 : decode cX0_areApart 5 = .ok (.iaload, 1) := by decide +kernel
theorem dX0_areApart_6 : decode cX0_areApart 6 = .ok (.iload_n 2, 1) := by decide +kernel
theorem dX0_areApart_7 : decode cX0_areApart 7 = .ok (.ishr, 1) := by decide +kernel
theorem dX0_areApart_8 : decode cX0_areApart 8 = .ok (.iconst 1, 1) := by decide +kernel
theorem dX0_areApart_9 : decode cX0_areApart 9 = .ok (.iand, 1) := by decide +kernel
theorem dX0_areApart_10 : decode cX0_areApart 10 = .ok (.iconst 1, 1) := by decide +kernel
theorem dX0_areApart_11 : decode cX0_areApart 11 = .ok (.if_icmp .ne 7, 3) := by decide +kernel
theorem dX0_areApart_14 : decode cX0_areApart 14 = .ok (.iconst 1, 1) := by decide +kernel
theorem dX0_areApart_15 : decode cX0_areApart 15 = .ok (.goto 4, 3) := by decide +kernel
theorem dX0_areApart_18 : decode cX0_areApart 18 = .ok (.iconst 0, 1) := by decide +kernel
theorem dX0_areApart_19 : decode cX0_areApart 19 = .ok (.ireturn, 1) := by decide +kernel
theorem dX0_has_0 : decode cX0_has 0 = .ok (.iload_n 1, 1) := by decide +kernel
theorem dX0_has_1 : decode cX0_has 1 = .ok (.iconst 0, 1) := by decide +kernel
theorem dX0_has_2 : decode cX0_has 2 = .ok (.bipush 15, 2) := by decide +kernel
theorem dX0_has_4 : decode cX0_has 4 = .ok (.invokestatic 101, 3) := by decide +kernel
theorem dX0_has_7 : decode cX0_has 7 = .ok (.ifCond .eq 16, 3) := by decide +kernel
theorem dX0_has_10 : decode cX0_has 10 = .ok (.aload_n 0, 1) := by decide +kernel
theorem dX0_has_11 : decode cX0_has 11 = .ok (.getfield 9, 3) := by decide +kernel
theorem dX0_has_14 : decode cX0_has 14 = .ok (.iload_n 1, 1) := by decide +kernel
theorem dX0_has_15 : decode cX0_has 15 = .ok (.baload, 1) := by decide +kernel
theorem dX0_has_16 : decode cX0_has 16 = .ok (.ifCond .eq 7, 3) := by decide +kernel
theorem dX0_has_19 : decode cX0_has 19 = .ok (.iconst 1, 1) := by decide +kernel
theorem dX0_has_20 : decode cX0_has 20 = .ok (.goto 4, 3) := by decide +kernel
theorem dX0_has_23 : decode cX0_has 23 = .ok (.iconst 0, 1) := by decide +kernel
theorem dX0_has_24 : decode cX0_has 24 = .ok (.ireturn, 1) := by decide +kernel
theorem dX0_countThere_0 : decode cX0_countThere 0 = .ok (.iconst 0, 1) := by decide +kernel
theorem dX0_countThere_1 : decode cX0_countThere 1 = .ok (.istore_n 1, 1) := by decide +kernel
theorem dX0_countThere_2 : decode cX0_countThere 2 = .ok (.iconst 0, 1) := by decide +kernel
theorem dX0_countThere_3 : decode cX0_countThere 3 = .ok (.istore_n 2, 1) := by decide +kernel
theorem dX0_countThere_4 : decode cX0_countThere 4 = .ok (.iload_n 2, 1) := by decide +kernel
theorem dX0_countThere_5 : decode cX0_countThere 5 = .ok (.bipush 16, 2) := by decide +kernel
theorem dX0_countThere_7 : decode cX0_countThere 7 = .ok (.if_icmp .ge 21, 3) := by decide +kernel
theorem dX0_countThere_10 : decode cX0_countThere 10 = .ok (.aload_n 0, 1) := by decide +kernel
theorem dX0_countThere_11 : decode cX0_countThere 11 = .ok (.getfield 9, 3) := by decide +kernel
theorem dX0_countThere_14 : decode cX0_countThere 14 = .ok (.iload_n 2, 1) := by decide +kernel
theorem dX0_countThere_15 : decode cX0_countThere 15 = .ok (.baload, 1) := by decide +kernel
theorem dX0_countThere_16 : decode cX0_countThere 16 = .ok (.ifCond .eq 6, 3) := by decide +kernel
theorem dX0_countThere_19 : decode cX0_countThere 19 = .ok (.iinc 1 1, 3) := by decide +kernel
theorem dX0_countThere_22 : decode cX0_countThere 22 = .ok (.iinc 2 1, 3) := by decide +kernel
theorem dX0_countThere_25 : decode cX0_countThere 25 = .ok (.goto (-21), 3) := by decide +kernel
theorem dX0_countThere_28 : decode cX0_countThere 28 = .ok (.iload_n 1, 1) := by decide +kernel
theorem dX0_countThere_29 : decode cX0_countThere 29 = .ok (.ireturn, 1) := by decide +kernel
theorem dX0_listMovable_0 : decode cX0_listMovable 0 = .ok (.iconst 0, 1) := by decide +kernel
theorem dX0_listMovable_1 : decode cX0_listMovable 1 = .ok (.istore_n 2, 1) := by decide +kernel
theorem dX0_listMovable_2 : decode cX0_listMovable 2 = .ok (.iconst 0, 1) := by decide +kernel
theorem dX0_listMovable_3 : decode cX0_listMovable 3 = .ok (.istore_n 3, 1) := by decide +kernel
theorem dX0_listMovable_4 : decode cX0_listMovable 4 = .ok (.iload_n 3, 1) := by decide +kernel
theorem dX0_listMovable_5 : decode cX0_listMovable 5 = .ok (.bipush 16, 2) := by decide +kernel
theorem dX0_listMovable_7 : decode cX0_listMovable 7 = .ok (.if_icmp .ge 42, 3) := by decide +kernel
theorem dX0_listMovable_10 : decode cX0_listMovable 10 = .ok (.iload_n 2, 1) := by decide +kernel
theorem dX0_listMovable_11 : decode cX0_listMovable 11 = .ok (.aload_n 1, 1) := by decide +kernel
theorem dX0_listMovable_12 : decode cX0_listMovable 12 = .ok (.arraylength, 1) := by decide +kernel
theorem dX0_listMovable_13 : decode cX0_listMovable 13 = .ok (.if_icmp .ge 36, 3) := by decide +kernel
theorem dX0_listMovable_16 : decode cX0_listMovable 16 = .ok (.aload_n 0, 1) := by decide +kernel
theorem dX0_listMovable_17 : decode cX0_listMovable 17 = .ok (.getfield 9, 3) := by decide +kernel
theorem dX0_listMovable_20 : decode cX0_listMovable 20 = .ok (.iload_n 3, 1) := by decide +kernel
theorem dX0_listMovable_21 : decode cX0_listMovable 21 = .ok (.baload, 1) := by decide +kernel
theorem dX0_listMovable_22 : decode cX0_listMovable 22 = .ok (.ifCond .eq 21, 3) := by decide +kernel
theorem dX0_listMovable_25 : decode cX0_listMovable 25 = .ok (.aload_n 0, 1) := by decide +kernel
theorem dX0_listMovable_26 : decode cX0_listMovable 26 = .ok (.getfield 25, 3) := by decide +kernel
theorem dX0_listMovable_29 : decode cX0_listMovable 29 = .ok (.iload_n 3, 1) := by decide +kernel
theorem dX0_listMovable_30 : decode cX0_listMovable 30 = .ok (.iaload, 1) := by decide +kernel
theorem dX0_listMovable_31 : decode cX0_listMovable 31 = .ok (.bipush (-2), 2) := by decide +kernel
theorem dX0_listMovable_33 : decode cX0_listMovable 33 = .ok (.if_icmp .ne 10, 3) := by decide +kernel
theorem dX0_listMovable_36 : decode cX0_listMovable 36 = .ok (.aload_n 1, 1) := by decide +kernel
theorem dX0_listMovable_37 : decode cX0_listMovable 37 = .ok (.iload_n 2, 1) := by decide +kernel
theorem dX0_listMovable_38 : decode cX0_listMovable 38 = .ok (.iload_n 3, 1) := by decide +kernel
theorem dX0_listMovable_39 : decode cX0_listMovable 39 = .ok (.iastore, 1) := by decide +kernel
theorem dX0_listMovable_40 : decode cX0_listMovable 40 = .ok (.iinc 2 1, 3) := by decide +kernel
theorem dX0_listMovable_43 : decode cX0_listMovable 43 = .ok (.iinc 3 1, 3) := by decide +kernel
theorem dX0_listMovable_46 : decode cX0_listMovable 46 = .ok (.goto (-42), 3) := by decide +kernel
theorem dX0_listMovable_49 : decode cX0_listMovable 49 = .ok (.iload_n 2, 1) := by decide +kernel
theorem dX0_listMovable_50 : decode cX0_listMovable 50 = .ok (.ireturn, 1) := by decide +kernel
theorem dX0_scoreOf_0 : decode cX0_scoreOf 0 = .ok (.aload_n 0, 1) := by decide +kernel
theorem dX0_scoreOf_1 : decode cX0_scoreOf 1 = .ok (.getfield 34, 3) := by decide +kernel
theorem dX0_scoreOf_4 : decode cX0_scoreOf 4 = .ok (.iconst 0, 1) := by decide +kernel
theorem dX0_scoreOf_5 : decode cX0_scoreOf 5 = .ok (.invokestatic 50, 3) := by decide +kernel
theorem dX0_scoreOf_8 : decode cX0_scoreOf 8 = .ok (.aload_n 0, 1) := by decide +kernel
theorem dX0_scoreOf_9 : decode cX0_scoreOf 9 = .ok (.getfield 37, 3) := by decide +kernel
theorem dX0_scoreOf_12 : decode cX0_scoreOf 12 = .ok (.iconst 0, 1) := by decide +kernel
theorem dX0_scoreOf_13 : decode cX0_scoreOf 13 = .ok (.invokestatic 50, 3) := by decide +kernel
theorem dX0_scoreOf_16 : decode cX0_scoreOf 16 = .ok (.iconst 0, 1) := by decide +kernel
theorem dX0_scoreOf_17 : decode cX0_scoreOf 17 = .ok (.istore_n 2, 1) := by decide +kernel
theorem dX0_scoreOf_18 : decode cX0_scoreOf 18 = .ok (.iconst 0, 1) := by decide +kernel
theorem dX0_scoreOf_19 : decode cX0_scoreOf 19 = .ok (.istore_n 3, 1) := by decide +kernel
theorem dX0_scoreOf_20 : decode cX0_scoreOf 20 = .ok (.iconst 0, 1) := by decide +kernel
theorem dX0_scoreOf_21 : decode cX0_scoreOf 21 = .ok (.istore 4, 2) := by decide +kernel
theorem dX0_scoreOf_23 : decode cX0_scoreOf 23 = .ok (.iload 4, 2) := by decide +kernel
theorem dX0_scoreOf_25 : decode cX0_scoreOf 25 = .ok (.bipush 16, 2) := by decide +kernel
theorem dX0_scoreOf_27 : decode cX0_scoreOf 27 = .ok (.if_icmp .ge 140, 3) := by decide +kernel
theorem dX0_scoreOf_30 : decode cX0_scoreOf 30 = .ok (.iload 4, 2) := by decide +kernel
theorem dX0_scoreOf_32 : decode cX0_scoreOf 32 = .ok (.aload_n 1, 1) := by decide +kernel
theorem dX0_scoreOf_33 : decode cX0_scoreOf 33 = .ok (.arraylength, 1) := by decide +kernel
theorem dX0_scoreOf_34 : decode cX0_scoreOf 34 = .ok (.if_icmp .ge 133, 3) := by decide +kernel
theorem dX0_scoreOf_37 : decode cX0_scoreOf 37 = .ok (.aload_n 0, 1) := by decide +kernel
theorem dX0_scoreOf_38 : decode cX0_scoreOf 38 = .ok (.getfield 9, 3) := by decide +kernel
theorem dX0_scoreOf_41 : decode cX0_scoreOf 41 = .ok (.iload 4, 2) := by decide +kernel
theorem dX0_scoreOf_43 : decode cX0_scoreOf 43 = .ok (.baload, 1) := by decide +kernel
theorem dX0_scoreOf_44 : decode cX0_scoreOf 44 = .ok (.ifCond .ne 6, 3) := by decide +kernel
theorem dX0_scoreOf_47 : decode cX0_scoreOf 47 = .ok (.goto 114, 3) := by decide +kernel
theorem dX0_scoreOf_50 : decode cX0_scoreOf 50 = .ok (.aload_n 1, 1) := by decide +kernel
theorem dX0_scoreOf_51 : decode cX0_scoreOf 51 = .ok (.iload 4, 2) := by decide +kernel
theorem dX0_scoreOf_53 : decode cX0_scoreOf 53 = .ok (.iaload, 1) := by decide +kernel
theorem dX0_scoreOf_54 : decode cX0_scoreOf 54 = .ok (.istore 5, 2) := by decide +kernel
theorem dX0_scoreOf_56 : decode cX0_scoreOf 56 = .ok (.iload 5, 2) := by decide +kernel
theorem dX0_scoreOf_58 : decode cX0_scoreOf 58 = .ok (.invokestatic 105, 3) := by decide +kernel
theorem dX0_scoreOf_61 : decode cX0_scoreOf 61 = .ok (.ifCond .eq 85, 3) := by decide +kernel
theorem dX0_scoreOf_64 : decode cX0_scoreOf 64 = .ok (.iload_n 2, 1) := by decide +kernel
theorem dX0_scoreOf_65 : decode cX0_scoreOf 65 = .ok (.bipush 10, 2) := by decide +kernel
theorem dX0_scoreOf_67 : decode cX0_scoreOf 67 = .ok (.aload_n 0, 1) := by decide +kernel
theorem dX0_scoreOf_68 : decode cX0_scoreOf 68 = .ok (.getfield 28, 3) := by decide +kernel
theorem dX0_scoreOf_71 : decode cX0_scoreOf 71 = .ok (.iload 4, 2) := by decide +kernel
theorem dX0_scoreOf_73 : decode cX0_scoreOf 73 = .ok (.iaload, 1) := by decide +kernel
theorem dX0_scoreOf_74 : decode cX0_scoreOf 74 = .ok (.aload_n 0, 1) := by decide +kernel
theorem dX0_scoreOf_75 : decode cX0_scoreOf 75 = .ok (.getfield 37, 3) := by decide +kernel
theorem dX0_scoreOf_78 : decode cX0_scoreOf 78 = .ok (.iload 5, 2) := by decide +kernel
theorem dX0_scoreOf_80 : decode cX0_scoreOf 80 = .ok (.iaload, 1) := by decide +kernel
theorem dX0_scoreOf_81 : decode cX0_scoreOf 81 = .ok (.iand, 1) := by decide +kernel
theorem dX0_scoreOf_82 : decode cX0_scoreOf 82 = .ok (.invokestatic 109, 3) := by decide +kernel
theorem dX0_scoreOf_85 : decode cX0_scoreOf 85 = .ok (.imul, 1) := by decide +kernel
theorem dX0_scoreOf_86 : decode cX0_scoreOf 86 = .ok (.iadd, 1) := by decide +kernel
theorem dX0_scoreOf_87 : decode cX0_scoreOf 87 = .ok (.istore_n 2, 1) := by decide +kernel
theorem dX0_scoreOf_88 : decode cX0_scoreOf 88 = .ok (.aload_n 0, 1) := by decide +kernel
theorem dX0_scoreOf_89 : decode cX0_scoreOf 89 = .ok (.getfield 37, 3) := by decide +kernel
theorem dX0_scoreOf_92 : decode cX0_scoreOf 92 = .ok (.iload 5, 2) := by decide +kernel
theorem dX0_scoreOf_94 : decode cX0_scoreOf 94 = .ok (.dup2, 1) := by decide +kernel
theorem dX0_scoreOf_95 : decode cX0_scoreOf 95 = .ok (.iaload, 1) := by decide +kernel
theorem dX0_scoreOf_96 : decode cX0_scoreOf 96 = .ok (.iconst 1, 1) := by decide +kernel
theorem dX0_scoreOf_97 : decode cX0_scoreOf 97 = .ok (.iload 4, 2) := by decide +kernel
theorem dX0_scoreOf_99 : decode cX0_scoreOf 99 = .ok (.ishl, 1) := by decide +kernel
theorem dX0_scoreOf_100 : decode cX0_scoreOf 100 = .ok (.ior, 1) := by decide +kernel
theorem dX0_scoreOf_101 : decode cX0_scoreOf 101 = .ok (.iastore, 1) := by decide +kernel
theorem dX0_scoreOf_102 : decode cX0_scoreOf 102 = .ok (.aload_n 0, 1) := by decide +kernel
theorem dX0_scoreOf_103 : decode cX0_scoreOf 103 = .ok (.getfield 34, 3) := by decide +kernel
theorem dX0_scoreOf_106 : decode cX0_scoreOf 106 = .ok (.iload 5, 2) := by decide +kernel
theorem dX0_scoreOf_108 : decode cX0_scoreOf 108 = .ok (.dup2, 1) := by decide +kernel
theorem dX0_scoreOf_109 : decode cX0_scoreOf 109 = .ok (.iaload, 1) := by decide +kernel
theorem dX0_scoreOf_110 : decode cX0_scoreOf 110 = .ok (.aload_n 0, 1) := by decide +kernel
theorem dX0_scoreOf_111 : decode cX0_scoreOf 111 = .ok (.getfield 15, 3) := by decide +kernel
theorem dX0_scoreOf_114 : decode cX0_scoreOf 114 = .ok (.iload 4, 2) := by decide +kernel
theorem dX0_scoreOf_116 : decode cX0_scoreOf 116 = .ok (.iaload, 1) := by decide +kernel
theorem dX0_scoreOf_117 : decode cX0_scoreOf 117 = .ok (.iadd, 1) := by decide +kernel
theorem dX0_scoreOf_118 : decode cX0_scoreOf 118 = .ok (.iastore, 1) := by decide +kernel
theorem dX0_scoreOf_119 : decode cX0_scoreOf 119 = .ok (.iload_n 3, 1) := by decide +kernel
theorem dX0_scoreOf_120 : decode cX0_scoreOf 120 = .ok (.aload_n 0, 1) := by decide +kernel
theorem dX0_scoreOf_121 : decode cX0_scoreOf 121 = .ok (.getfield 19, 3) := by decide +kernel
theorem dX0_scoreOf_124 : decode cX0_scoreOf 124 = .ok (.iload 4, 2) := by decide +kernel
theorem dX0_scoreOf_126 : decode cX0_scoreOf 126 = .ok (.iaload, 1) := by decide +kernel
theorem dX0_scoreOf_127 : decode cX0_scoreOf 127 = .ok (.iload 5, 2) := by decide +kernel
theorem dX0_scoreOf_129 : decode cX0_scoreOf 129 = .ok (.aload_n 0, 1) := by decide +kernel
theorem dX0_scoreOf_130 : decode cX0_scoreOf 130 = .ok (.getfield 22, 3) := by decide +kernel
theorem dX0_scoreOf_133 : decode cX0_scoreOf 133 = .ok (.iload 4, 2) := by decide +kernel
theorem dX0_scoreOf_135 : decode cX0_scoreOf 135 = .ok (.iaload, 1) := by decide +kernel
theorem dX0_scoreOf_136 : decode cX0_scoreOf 136 = .ok (.isub, 1) := by decide +kernel
theorem dX0_scoreOf_137 : decode cX0_scoreOf 137 = .ok (.invokestatic 115, 3) := by decide +kernel
theorem dX0_scoreOf_140 : decode cX0_scoreOf 140 = .ok (.imul, 1) := by decide +kernel
theorem dX0_scoreOf_141 : decode cX0_scoreOf 141 = .ok (.iadd, 1) := by decide +kernel
theorem dX0_scoreOf_142 : decode cX0_scoreOf 142 = .ok (.istore_n 3, 1) := by decide +kernel
theorem dX0_scoreOf_143 : decode cX0_scoreOf 143 = .ok (.goto 18, 3) := by decide +kernel
theorem dX0_scoreOf_146 : decode cX0_scoreOf 146 = .ok (.iload_n 3, 1) := by decide +kernel
theorem dX0_scoreOf_147 : decode cX0_scoreOf 147 = .ok (.bipush 7, 2) := by decide +kernel
theorem dX0_scoreOf_149 : decode cX0_scoreOf 149 = .ok (.aload_n 0, 1) := by decide +kernel
theorem dX0_scoreOf_150 : decode cX0_scoreOf 150 = .ok (.getfield 19, 3) := by decide +kernel
theorem dX0_scoreOf_153 : decode cX0_scoreOf 153 = .ok (.iload 4, 2) := by decide +kernel
theorem dX0_scoreOf_155 : decode cX0_scoreOf 155 = .ok (.iaload, 1) := by decide +kernel
theorem dX0_scoreOf_156 : decode cX0_scoreOf 156 = .ok (.imul, 1) := by decide +kernel
theorem dX0_scoreOf_157 : decode cX0_scoreOf 157 = .ok (.iconst 1, 1) := by decide +kernel
theorem dX0_scoreOf_158 : decode cX0_scoreOf 158 = .ok (.iadd, 1) := by decide +kernel
theorem dX0_scoreOf_159 : decode cX0_scoreOf 159 = .ok (.iadd, 1) := by decide +kernel
theorem dX0_scoreOf_160 : decode cX0_scoreOf 160 = .ok (.istore_n 3, 1) := by decide +kernel
theorem dX0_scoreOf_161 : decode cX0_scoreOf 161 = .ok (.iinc 4 1, 3) := by decide +kernel
theorem dX0_scoreOf_164 : decode cX0_scoreOf 164 = .ok (.goto (-141), 3) := by decide +kernel
theorem dX0_scoreOf_167 : decode cX0_scoreOf 167 = .ok (.iconst 0, 1) := by decide +kernel
theorem dX0_scoreOf_168 : decode cX0_scoreOf 168 = .ok (.istore 4, 2) := by decide +kernel
theorem dX0_scoreOf_170 : decode cX0_scoreOf 170 = .ok (.iload 4, 2) := by decide +kernel
theorem dX0_scoreOf_172 : decode cX0_scoreOf 172 = .ok (.bipush 6, 2) := by decide +kernel
theorem dX0_scoreOf_174 : decode cX0_scoreOf 174 = .ok (.if_icmp .ge 31, 3) := by decide +kernel
theorem dX0_scoreOf_177 : decode cX0_scoreOf 177 = .ok (.iload_n 2, 1) := by decide +kernel
theorem dX0_scoreOf_178 : decode cX0_scoreOf 178 = .ok (.iconst 0, 1) := by decide +kernel
theorem dX0_scoreOf_179 : decode cX0_scoreOf 179 = .ok (.aload_n 0, 1) := by decide +kernel
theorem dX0_scoreOf_180 : decode cX0_scoreOf 180 = .ok (.getfield 34, 3) := by decide +kernel
theorem dX0_scoreOf_183 : decode cX0_scoreOf 183 = .ok (.iload 4, 2) := by decide +kernel
theorem dX0_scoreOf_185 : decode cX0_scoreOf 185 = .ok (.iaload, 1) := by decide +kernel
theorem dX0_scoreOf_186 : decode cX0_scoreOf 186 = .ok (.aload_n 0, 1) := by decide +kernel
theorem dX0_scoreOf_187 : decode cX0_scoreOf 187 = .ok (.getfield 31, 3) := by decide +kernel
theorem dX0_scoreOf_190 : decode cX0_scoreOf 190 = .ok (.iload 4, 2) := by decide +kernel
theorem dX0_scoreOf_192 : decode cX0_scoreOf 192 = .ok (.iaload, 1) := by decide +kernel
theorem dX0_scoreOf_193 : decode cX0_scoreOf 193 = .ok (.isub, 1) := by decide +kernel
theorem dX0_scoreOf_194 : decode cX0_scoreOf 194 = .ok (.invokestatic 118, 3) := by decide +kernel
theorem dX0_scoreOf_197 : decode cX0_scoreOf 197 = .ok (.iadd, 1) := by decide +kernel
theorem dX0_scoreOf_198 : decode cX0_scoreOf 198 = .ok (.istore_n 2, 1) := by decide +kernel
theorem dX0_scoreOf_199 : decode cX0_scoreOf 199 = .ok (.iinc 4 1, 3) := by decide +kernel
theorem dX0_scoreOf_202 : decode cX0_scoreOf 202 = .ok (.goto (-32), 3) := by decide +kernel
theorem dX0_scoreOf_205 : decode cX0_scoreOf 205 = .ok (.iload_n 2, 1) := by decide +kernel
theorem dX0_scoreOf_206 : decode cX0_scoreOf 206 = .ok (.iload_n 3, 1) := by decide +kernel
theorem dX0_scoreOf_207 : decode cX0_scoreOf 207 = .ok (.invokestatic 121, 3) := by decide +kernel
theorem dX0_scoreOf_210 : decode cX0_scoreOf 210 = .ok (.lreturn, 1) := by decide +kernel
theorem dX1_init_0 : decode cX1_init 0 = .ok (.aload_n 0, 1) := by decide +kernel
theorem dX1_init_1 : decode cX1_init 1 = .ok (.invokespecial 3, 3) := by decide +kernel
theorem dX1_init_4 : decode cX1_init 4 = .ok (.aload_n 0, 1) := by decide +kernel
theorem dX1_init_5 : decode cX1_init 5 = .ok (.bipush 120, 2) := by decide +kernel
theorem dX1_init_7 : decode cX1_init 7 = .ok (.newarray .int, 2) := by decide +kernel
theorem dX1_init_9 : decode cX1_init 9 = .ok (.putfield 9, 3) := by decide +kernel
theorem dX1_init_12 : decode cX1_init 12 = .ok (.aload_n 0, 1) := by decide +kernel
theorem dX1_init_13 : decode cX1_init 13 = .ok (.bipush 120, 2) := by decide +kernel
theorem dX1_init_15 : decode cX1_init 15 = .ok (.newarray .int, 2) := by decide +kernel
theorem dX1_init_17 : decode cX1_init 17 = .ok (.putfield 15, 3) := by decide +kernel
theorem dX1_init_20 : decode cX1_init 20 = .ok (.aload_n 0, 1) := by decide +kernel
theorem dX1_init_21 : decode cX1_init 21 = .ok (.bipush 120, 2) := by decide +kernel
theorem dX1_init_23 : decode cX1_init 23 = .ok (.newarray .int, 2) := by decide +kernel
theorem dX1_init_25 : decode cX1_init 25 = .ok (.putfield 18, 3) := by decide +kernel
theorem dX1_init_28 : decode cX1_init 28 = .ok (.aload_n 0, 1) := by decide +kernel
theorem dX1_init_29 : decode cX1_init 29 = .ok (.bipush 120, 2) := by decide +kernel
theorem dX1_init_31 : decode cX1_init 31 = .ok (.newarray .int, 2) := by decide +kernel
theorem dX1_init_33 : decode cX1_init 33 = .ok (.putfield 21, 3) := by decide +kernel
theorem dX1_init_36 : decode cX1_init 36 = .ok (.aload_n 0, 1) := by decide +kernel
theorem dX1_init_37 : decode cX1_init 37 = .ok (.bipush 120, 2) := by decide +kernel
theorem dX1_init_39 : decode cX1_init 39 = .ok (.newarray .int, 2) := by decide +kernel
theorem dX1_init_41 : decode cX1_init 41 = .ok (.putfield 24, 3) := by decide +kernel
theorem dX1_init_44 : decode cX1_init 44 = .ok (.aload_n 0, 1) := by decide +kernel
theorem dX1_init_45 : decode cX1_init 45 = .ok (.iconst 0, 1) := by decide +kernel
theorem dX1_init_46 : decode cX1_init 46 = .ok (.putfield 27, 3) := by decide +kernel
theorem dX1_init_49 : decode cX1_init 49 = .ok (.return_, 1) := by decide +kernel
theorem dX1_add_0 : decode cX1_add 0 = .ok (.aload_n 0, 1) := by decide +kernel
theorem dX1_add_1 : decode cX1_add 1 = .ok (.getfield 27, 3) := by decide +kernel
theorem dX1_add_4 : decode cX1_add 4 = .ok (.bipush 120, 2) := by decide +kernel
theorem dX1_add_6 : decode cX1_add 6 = .ok (.if_icmp .lt 4, 3) := by decide +kernel
theorem dX1_add_9 : decode cX1_add 9 = .ok (.return_, 1) := by decide +kernel
theorem dX1_add_10 : decode cX1_add 10 = .ok (.aload_n 0, 1) := by decide +kernel
theorem dX1_add_11 : decode cX1_add 11 = .ok (.getfield 9, 3) := by decide +kernel
theorem dX1_add_14 : decode cX1_add 14 = .ok (.aload_n 0, 1) := by decide +kernel
theorem dX1_add_15 : decode cX1_add 15 = .ok (.getfield 27, 3) := by decide +kernel
theorem dX1_add_18 : decode cX1_add 18 = .ok (.iload_n 1, 1) := by decide +kernel
theorem dX1_add_19 : decode cX1_add 19 = .ok (.iastore, 1) := by decide +kernel
theorem dX1_add_20 : decode cX1_add 20 = .ok (.aload_n 0, 1) := by decide +kernel
theorem dX1_add_21 : decode cX1_add 21 = .ok (.getfield 15, 3) := by decide +kernel
theorem dX1_add_24 : decode cX1_add 24 = .ok (.aload_n 0, 1) := by decide +kernel
theorem dX1_add_25 : decode cX1_add 25 = .ok (.getfield 27, 3) := by decide +kernel
theorem dX1_add_28 : decode cX1_add 28 = .ok (.iload_n 2, 1) := by decide +kernel
theorem dX1_add_29 : decode cX1_add 29 = .ok (.iastore, 1) := by decide +kernel
theorem dX1_add_30 : decode cX1_add 30 = .ok (.aload_n 0, 1) := by decide +kernel
theorem dX1_add_31 : decode cX1_add 31 = .ok (.getfield 18, 3) := by decide +kernel
theorem dX1_add_34 : decode cX1_add 34 = .ok (.aload_n 0, 1) := by decide +kernel
theorem dX1_add_35 : decode cX1_add 35 = .ok (.getfield 27, 3) := by decide +kernel
theorem dX1_add_38 : decode cX1_add 38 = .ok (.iload_n 3, 1) := by decide +kernel
theorem dX1_add_39 : decode cX1_add 39 = .ok (.iastore, 1) := by decide +kernel
theorem dX1_add_40 : decode cX1_add 40 = .ok (.aload_n 0, 1) := by decide +kernel
theorem dX1_add_41 : decode cX1_add 41 = .ok (.getfield 21, 3) := by decide +kernel
theorem dX1_add_44 : decode cX1_add 44 = .ok (.aload_n 0, 1) := by decide +kernel
theorem dX1_add_45 : decode cX1_add 45 = .ok (.getfield 27, 3) := by decide +kernel
theorem dX1_add_48 : decode cX1_add 48 = .ok (.iload 4, 2) := by decide +kernel
theorem dX1_add_50 : decode cX1_add 50 = .ok (.iastore, 1) := by decide +kernel
theorem dX1_add_51 : decode cX1_add 51 = .ok (.aload_n 0, 1) := by decide +kernel
theorem dX1_add_52 : decode cX1_add 52 = .ok (.getfield 24, 3) := by decide +kernel
theorem dX1_add_55 : decode cX1_add 55 = .ok (.aload_n 0, 1) := by decide +kernel
theorem dX1_add_56 : decode cX1_add 56 = .ok (.getfield 27, 3) := by decide +kernel
theorem dX1_add_59 : decode cX1_add 59 = .ok (.iload 5, 2) := by decide +kernel
theorem dX1_add_61 : decode cX1_add 61 = .ok (.iastore, 1) := by decide +kernel
theorem dX1_add_62 : decode cX1_add 62 = .ok (.aload_n 0, 1) := by decide +kernel
theorem dX1_add_63 : decode cX1_add 63 = .ok (.dup, 1) := by decide +kernel
theorem dX1_add_64 : decode cX1_add 64 = .ok (.getfield 27, 3) := by decide +kernel
theorem dX1_add_67 : decode cX1_add 67 = .ok (.iconst 1, 1) := by decide +kernel
theorem dX1_add_68 : decode cX1_add 68 = .ok (.iadd, 1) := by decide +kernel
theorem dX1_add_69 : decode cX1_add 69 = .ok (.putfield 27, 3) := by decide +kernel
theorem dX1_add_72 : decode cX1_add 72 = .ok (.return_, 1) := by decide +kernel
theorem dX2_init_0 : decode cX2_init 0 = .ok (.aload_n 0, 1) := by decide +kernel
theorem dX2_init_1 : decode cX2_init 1 = .ok (.invokespecial 3, 3) := by decide +kernel
theorem dX2_init_4 : decode cX2_init 4 = .ok (.aload_n 0, 1) := by decide +kernel
theorem dX2_init_5 : decode cX2_init 5 = .ok (.iconst 0, 1) := by decide +kernel
theorem dX2_init_6 : decode cX2_init 6 = .ok (.putfield 9, 3) := by decide +kernel
theorem dX2_init_9 : decode cX2_init 9 = .ok (.aload_n 0, 1) := by decide +kernel
theorem dX2_init_10 : decode cX2_init 10 = .ok (.bipush 16, 2) := by decide +kernel
theorem dX2_init_12 : decode cX2_init 12 = .ok (.newarray .int, 2) := by decide +kernel
theorem dX2_init_14 : decode cX2_init 14 = .ok (.putfield 15, 3) := by decide +kernel
theorem dX2_init_17 : decode cX2_init 17 = .ok (.aload_n 0, 1) := by decide +kernel
theorem dX2_init_18 : decode cX2_init 18 = .ok (.bipush 16, 2) := by decide +kernel
theorem dX2_init_20 : decode cX2_init 20 = .ok (.newarray .int, 2) := by decide +kernel
theorem dX2_init_22 : decode cX2_init 22 = .ok (.putfield 19, 3) := by decide +kernel
theorem dX2_init_25 : decode cX2_init 25 = .ok (.aload_n 0, 1) := by decide +kernel
theorem dX2_init_26 : decode cX2_init 26 = .ok (.iload_n 1, 1) := by decide +kernel
theorem dX2_init_27 : decode cX2_init 27 = .ok (.newarray .long, 2) := by decide +kernel
theorem dX2_init_29 : decode cX2_init 29 = .ok (.putfield 22, 3) := by decide +kernel
theorem dX2_init_32 : decode cX2_init 32 = .ok (.return_, 1) := by decide +kernel
theorem dX3_init_0 : decode cX3_init 0 = .ok (.aload_n 0, 1) := by decide +kernel
theorem dX3_init_1 : decode cX3_init 1 = .ok (.invokespecial 3, 3) := by decide +kernel
theorem dX3_init_4 : decode cX3_init 4 = .ok (.aload_n 0, 1) := by decide +kernel
theorem dX3_init_5 : decode cX3_init 5 = .ok (.new 9, 3) := by decide +kernel
theorem dX3_init_8 : decode cX3_init 8 = .ok (.dup, 1) := by decide +kernel
theorem dX3_init_9 : decode cX3_init 9 = .ok (.invokespecial 11, 3) := by decide +kernel
theorem dX3_init_12 : decode cX3_init 12 = .ok (.putfield 12, 3) := by decide +kernel
theorem dX3_init_15 : decode cX3_init 15 = .ok (.aload_n 0, 1) := by decide +kernel
theorem dX3_init_16 : decode cX3_init 16 = .ok (.invokestatic 18, 3) := by decide +kernel
theorem dX3_init_19 : decode cX3_init 19 = .ok (.putfield 22, 3) := by decide +kernel
theorem dX3_init_22 : decode cX3_init 22 = .ok (.aload_n 0, 1) := by decide +kernel
theorem dX3_init_23 : decode cX3_init 23 = .ok (.invokestatic 18, 3) := by decide +kernel
theorem dX3_init_26 : decode cX3_init 26 = .ok (.putfield 26, 3) := by decide +kernel
theorem dX3_init_29 : decode cX3_init 29 = .ok (.aload_n 0, 1) := by decide +kernel
theorem dX3_init_30 : decode cX3_init 30 = .ok (.iconst 2, 1) := by decide +kernel
theorem dX3_init_31 : decode cX3_init 31 = .ok (.anewarray 29, 3) := by decide +kernel
theorem dX3_init_34 : decode cX3_init 34 = .ok (.putfield 31, 3) := by decide +kernel
theorem dX3_init_37 : decode cX3_init 37 = .ok (.aload_n 0, 1) := by decide +kernel
theorem dX3_init_38 : decode cX3_init 38 = .ok (.bipush 16, 2) := by decide +kernel
theorem dX3_init_40 : decode cX3_init 40 = .ok (.newarray .int, 2) := by decide +kernel
theorem dX3_init_42 : decode cX3_init 42 = .ok (.putfield 35, 3) := by decide +kernel
theorem dX3_init_45 : decode cX3_init 45 = .ok (.aload_n 0, 1) := by decide +kernel
theorem dX3_init_46 : decode cX3_init 46 = .ok (.lconst 0, 1) := by decide +kernel
theorem dX3_init_47 : decode cX3_init 47 = .ok (.putfield 38, 3) := by decide +kernel
theorem dX3_init_50 : decode cX3_init 50 = .ok (.aload_n 0, 1) := by decide +kernel
theorem dX3_init_51 : decode cX3_init 51 = .ok (.lconst 0, 1) := by decide +kernel
theorem dX3_init_52 : decode cX3_init 52 = .ok (.putfield 42, 3) := by decide +kernel
theorem dX3_init_55 : decode cX3_init 55 = .ok (.aload_n 0, 1) := by decide +kernel
theorem dX3_init_56 : decode cX3_init 56 = .ok (.iconst 0, 1) := by decide +kernel
theorem dX3_init_57 : decode cX3_init 57 = .ok (.putfield 45, 3) := by decide +kernel
theorem dX3_init_60 : decode cX3_init 60 = .ok (.aload_n 0, 1) := by decide +kernel
theorem dX3_init_61 : decode cX3_init 61 = .ok (.iconst 0, 1) := by decide +kernel
theorem dX3_init_62 : decode cX3_init 62 = .ok (.putfield 49, 3) := by decide +kernel
theorem dX3_init_65 : decode cX3_init 65 = .ok (.aload_n 0, 1) := by decide +kernel
theorem dX3_init_66 : decode cX3_init 66 = .ok (.iconst 0, 1) := by decide +kernel
theorem dX3_init_67 : decode cX3_init 67 = .ok (.putfield 52, 3) := by decide +kernel
theorem dX3_init_70 : decode cX3_init 70 = .ok (.aload_n 0, 1) := by decide +kernel
theorem dX3_init_71 : decode cX3_init 71 = .ok (.iload_n 1, 1) := by decide +kernel
theorem dX3_init_72 : decode cX3_init 72 = .ok (.putfield 55, 3) := by decide +kernel
theorem dX3_init_75 : decode cX3_init 75 = .ok (.aload_n 0, 1) := by decide +kernel
theorem dX3_init_76 : decode cX3_init 76 = .ok (.iload_n 2, 1) := by decide +kernel
theorem dX3_init_77 : decode cX3_init 77 = .ok (.newarray .long, 2) := by decide +kernel
theorem dX3_init_79 : decode cX3_init 79 = .ok (.putfield 58, 3) := by decide +kernel
theorem dX3_init_82 : decode cX3_init 82 = .ok (.return_, 1) := by decide +kernel
theorem dX3_rooms_0 : decode cX3_rooms 0 = .ok (.iload_n 1, 1) := by decide +kernel
theorem dX3_rooms_1 : decode cX3_rooms 1 = .ok (.ifCond .eq 10, 3) := by decide +kernel
theorem dX3_rooms_4 : decode cX3_rooms 4 = .ok (.aload_n 0, 1) := by decide +kernel
theorem dX3_rooms_5 : decode cX3_rooms 5 = .ok (.getfield 26, 3) := by decide +kernel
theorem dX3_rooms_8 : decode cX3_rooms 8 = .ok (.goto 7, 3) := by decide +kernel
theorem dX3_rooms_11 : decode cX3_rooms 11 = .ok (.aload_n 0, 1) := by decide +kernel
theorem dX3_rooms_12 : decode cX3_rooms 12 = .ok (.getfield 22, 3) := by decide +kernel
theorem dX3_rooms_15 : decode cX3_rooms 15 = .ok (.areturn, 1) := by decide +kernel
theorem dX3_latePlace_0 : decode cX3_latePlace 0 = .ok (.aload_n 0, 1) := by decide +kernel
theorem dX3_latePlace_1 : decode cX3_latePlace 1 = .ok (.getfield 45, 3) := by decide +kernel
theorem dX3_latePlace_4 : decode cX3_latePlace 4 = .ok (.aload_n 0, 1) := by decide +kernel
theorem dX3_latePlace_5 : decode cX3_latePlace 5 = .ok (.getfield 58, 3) := by decide +kernel
theorem dX3_latePlace_8 : decode cX3_latePlace 8 = .ok (.arraylength, 1) := by decide +kernel
theorem dX3_latePlace_9 : decode cX3_latePlace 9 = .ok (.invokestatic 62, 3) := by decide +kernel
theorem dX3_latePlace_12 : decode cX3_latePlace 12 = .ok (.ireturn, 1) := by decide +kernel
theorem dX3_catchUp_0 : decode cX3_catchUp 0 = .ok (.aload_n 0, 1) := by decide +kernel
theorem dX3_catchUp_1 : decode cX3_catchUp 1 = .ok (.getfield 12, 3) := by decide +kernel
theorem dX3_catchUp_4 : decode cX3_catchUp 4 = .ok (.getfield 68, 3) := by decide +kernel
theorem dX3_catchUp_7 : decode cX3_catchUp 7 = .ok (.istore_n 3, 1) := by decide +kernel
theorem dX3_catchUp_8 : decode cX3_catchUp 8 = .ok (.iload_n 2, 1) := by decide +kernel
theorem dX3_catchUp_9 : decode cX3_catchUp 9 = .ok (.aload_n 1, 1) := by decide +kernel
theorem dX3_catchUp_10 : decode cX3_catchUp 10 = .ok (.getfield 71, 3) := by decide +kernel
theorem dX3_catchUp_13 : decode cX3_catchUp 13 = .ok (.invokestatic 76, 3) := by decide +kernel
theorem dX3_catchUp_16 : decode cX3_catchUp 16 = .ok (.istore 4, 2) := by decide +kernel
theorem dX3_catchUp_18 : decode cX3_catchUp 18 = .ok (.iload 4, 2) := by decide +kernel
theorem dX3_catchUp_20 : decode cX3_catchUp 20 = .ok (.iload_n 3, 1) := by decide +kernel
theorem dX3_catchUp_21 : decode cX3_catchUp 21 = .ok (.if_icmp .gt 5, 3) := by decide +kernel
theorem dX3_catchUp_24 : decode cX3_catchUp 24 = .ok (.iconst 0, 1) := by decide +kernel
theorem dX3_catchUp_25 : decode cX3_catchUp 25 = .ok (.ireturn, 1) := by decide +kernel
theorem dX3_catchUp_26 : decode cX3_catchUp 26 = .ok (.aload_n 0, 1) := by decide +kernel
theorem dX3_catchUp_27 : decode cX3_catchUp 27 = .ok (.getfield 12, 3) := by decide +kernel
theorem dX3_catchUp_30 : decode cX3_catchUp 30 = .ok (.aload_n 1, 1) := by decide +kernel
theorem dX3_catchUp_31 : decode cX3_catchUp 31 = .ok (.iload 4, 2) := by decide +kernel
theorem dX3_catchUp_33 : decode cX3_catchUp 33 = .ok (.invokevirtual 79, 3) := by decide +kernel
theorem dX3_catchUp_36 : decode cX3_catchUp 36 = .ok (.iload_n 3, 1) := by decide +kernel
theorem dX3_catchUp_37 : decode cX3_catchUp 37 = .ok (.istore 5, 2) := by decide +kernel
theorem dX3_catchUp_39 : decode cX3_catchUp 39 = .ok (.iload 5, 2) := by decide +kernel
theorem dX3_catchUp_41 : decode cX3_catchUp 41 = .ok (.iload 4, 2) := by decide +kernel
theorem dX3_catchUp_43 : decode cX3_catchUp 43 = .ok (.if_icmp .ge 16, 3) := by decide +kernel
theorem dX3_catchUp_46 : decode cX3_catchUp 46 = .ok (.aload_n 0, 1) := by decide +kernel
theorem dX3_catchUp_47 : decode cX3_catchUp 47 = .ok (.aload_n 1, 1) := by decide +kernel
theorem dX3_catchUp_48 : decode cX3_catchUp 48 = .ok (.iload 5, 2) := by decide +kernel
theorem dX3_catchUp_50 : decode cX3_catchUp 50 = .ok (.invokevirtual 83, 3) := by decide +kernel
theorem dX3_catchUp_53 : decode cX3_catchUp 53 = .ok (.iinc 5 1, 3) := by decide +kernel
theorem dX3_catchUp_56 : decode cX3_catchUp 56 = .ok (.goto (-17), 3) := by decide +kernel
theorem dX3_catchUp_59 : decode cX3_catchUp 59 = .ok (.aload_n 0, 1) := by decide +kernel
theorem dX3_catchUp_60 : decode cX3_catchUp 60 = .ok (.invokevirtual 86, 3) := by decide +kernel
theorem dX3_catchUp_63 : decode cX3_catchUp 63 = .ok (.aload_n 0, 1) := by decide +kernel
theorem dX3_catchUp_64 : decode cX3_catchUp 64 = .ok (.invokevirtual 89, 3) := by decide +kernel
theorem dX3_catchUp_67 : decode cX3_catchUp 67 = .ok (.aload_n 0, 1) := by decide +kernel
theorem dX3_catchUp_68 : decode cX3_catchUp 68 = .ok (.getfield 58, 3) := by decide +kernel
theorem dX3_catchUp_71 : decode cX3_catchUp 71 = .ok (.aload_n 0, 1) := by decide +kernel
theorem dX3_catchUp_72 : decode cX3_catchUp 72 = .ok (.getfield 38, 3) := by decide +kernel
theorem dX3_catchUp_75 : decode cX3_catchUp 75 = .ok (.invokestatic 92, 3) := by decide +kernel
theorem dX3_catchUp_78 : decode cX3_catchUp 78 = .ok (.iload 4, 2) := by decide +kernel
theorem dX3_catchUp_80 : decode cX3_catchUp 80 = .ok (.iload_n 3, 1) := by decide +kernel
theorem dX3_catchUp_81 : decode cX3_catchUp 81 = .ok (.isub, 1) := by decide +kernel
theorem dX3_catchUp_82 : decode cX3_catchUp 82 = .ok (.ireturn, 1) := by decide +kernel
theorem dX3_followChange_0 : decode cX3_followChange 0 = .ok (.aload_n 1, 1) := by decide +kernel
theorem dX3_followChange_1 : decode cX3_followChange 1 = .ok (.getfield 98, 3) := by decide +kernel
theorem dX3_followChange_4 : decode cX3_followChange 4 = .ok (.iload_n 2, 1) := by decide +kernel
theorem dX3_followChange_5 : decode cX3_followChange 5 = .ok (.iaload, 1) := by decide +kernel
theorem dX3_followChange_6 : decode cX3_followChange 6 = .ok (.istore_n 3, 1) := by decide +kernel
theorem dX3_followChange_7 : decode cX3_followChange 7 = .ok (.iload_n 3, 1) := by decide +kernel
theorem dX3_followChange_8 : decode cX3_followChange 8 = .ok (.ifCond .eq 8, 3) := by decide +kernel
theorem dX3_followChange_11 : decode cX3_followChange 11 = .ok (.iload_n 3, 1) := by decide +kernel
theorem dX3_followChange_12 : decode cX3_followChange 12 = .ok (.iconst 1, 1) := by decide +kernel
theorem dX3_followChange_13 : decode cX3_followChange 13 = .ok (.if_icmp .ne 17, 3) := by decide +kernel
theorem dX3_followChange_16 : decode cX3_followChange 16 = .ok (.aload_n 0, 1) := by decide +kernel
theorem dX3_followChange_17 : decode cX3_followChange 17 = .ok (.aload_n 1, 1) := by decide +kernel
theorem dX3_followChange_18 : decode cX3_followChange 18 = .ok (.getfield 101, 3) := by decide +kernel
theorem dX3_followChange_21 : decode cX3_followChange 21 = .ok (.iload_n 2, 1) := by decide +kernel
theorem dX3_followChange_22 : decode cX3_followChange 22 = .ok (.iaload, 1) := by decide +kernel
theorem dX3_followChange_23 : decode cX3_followChange 23 = .ok (.iconst (-1), 1) := by decide +kernel
theorem dX3_followChange_24 : decode cX3_followChange 24 = .ok (.invokevirtual 104, 3) := by decide +kernel
theorem dX3_followChange_27 : decode cX3_followChange 27 = .ok (.goto 25, 3) := by decide +kernel
theorem dX3_followChange_30 : decode cX3_followChange 30 = .ok (.iload_n 3, 1) := by decide +kernel
theorem dX3_followChange_31 : decode cX3_followChange 31 = .ok (.bipush 6, 2) := by decide +kernel
theorem dX3_followChange_33 : decode cX3_followChange 33 = .ok (.if_icmp .ne 19, 3) := by decide +kernel
theorem dX3_followChange_36 : decode cX3_followChange 36 = .ok (.aload_n 0, 1) := by decide +kernel
theorem dX3_followChange_37 : decode cX3_followChange 37 = .ok (.aload_n 1, 1) := by decide +kernel
theorem dX3_followChange_38 : decode cX3_followChange 38 = .ok (.getfield 101, 3) := by decide +kernel
theorem dX3_followChange_41 : decode cX3_followChange 41 = .ok (.iload_n 2, 1) := by decide +kernel
theorem dX3_followChange_42 : decode cX3_followChange 42 = .ok (.iaload, 1) := by decide +kernel
theorem dX3_followChange_43 : decode cX3_followChange 43 = .ok (.aload_n 1, 1) := by decide +kernel
theorem dX3_followChange_44 : decode cX3_followChange 44 = .ok (.getfield 108, 3) := by decide +kernel
theorem dX3_followChange_47 : decode cX3_followChange 47 = .ok (.iload_n 2, 1) := by decide +kernel
theorem dX3_followChange_48 : decode cX3_followChange 48 = .ok (.iaload, 1) := by decide +kernel
theorem dX3_followChange_49 : decode cX3_followChange 49 = .ok (.invokevirtual 104, 3) := by decide +kernel
theorem dX3_followChange_52 : decode cX3_followChange 52 = .ok (.return_, 1) := by decide +kernel
theorem dX3_putInBoth_0 : decode cX3_putInBoth 0 = .ok (.aload_n 0, 1) := by decide +kernel
theorem dX3_putInBoth_1 : decode cX3_putInBoth 1 = .ok (.getfield 22, 3) := by decide +kernel
theorem dX3_putInBoth_4 : decode cX3_putInBoth 4 = .ok (.iload_n 1, 1) := by decide +kernel
theorem dX3_putInBoth_5 : decode cX3_putInBoth 5 = .ok (.iload_n 2, 1) := by decide +kernel
theorem dX3_putInBoth_6 : decode cX3_putInBoth 6 = .ok (.iastore, 1) := by decide +kernel
theorem dX3_putInBoth_7 : decode cX3_putInBoth 7 = .ok (.aload_n 0, 1) := by decide +kernel
theorem dX3_putInBoth_8 : decode cX3_putInBoth 8 = .ok (.getfield 26, 3) := by decide +kernel
theorem dX3_putInBoth_11 : decode cX3_putInBoth 11 = .ok (.iload_n 1, 1) := by decide +kernel
theorem dX3_putInBoth_12 : decode cX3_putInBoth 12 = .ok (.iload_n 2, 1) := by decide +kernel
theorem dX3_putInBoth_13 : decode cX3_putInBoth 13 = .ok (.iastore, 1) := by decide +kernel
theorem dX3_putInBoth_14 : decode cX3_putInBoth 14 = .ok (.return_, 1) := by decide +kernel
theorem dX3_scoreAnew_0 : decode cX3_scoreAnew 0 = .ok (.aload_n 0, 1) := by decide +kernel
theorem dX3_scoreAnew_1 : decode cX3_scoreAnew 1 = .ok (.aload_n 0, 1) := by decide +kernel
theorem dX3_scoreAnew_2 : decode cX3_scoreAnew 2 = .ok (.getfield 12, 3) := by decide +kernel
theorem dX3_scoreAnew_5 : decode cX3_scoreAnew 5 = .ok (.aload_n 0, 1) := by decide +kernel
theorem dX3_scoreAnew_6 : decode cX3_scoreAnew 6 = .ok (.getfield 22, 3) := by decide +kernel
theorem dX3_scoreAnew_9 : decode cX3_scoreAnew 9 = .ok (.invokevirtual 111, 3) := by decide +kernel
theorem dX3_scoreAnew_12 : decode cX3_scoreAnew 12 = .ok (.putfield 38, 3) := by decide +kernel
theorem dX3_scoreAnew_15 : decode cX3_scoreAnew 15 = .ok (.aload_n 0, 1) := by decide +kernel
theorem dX3_scoreAnew_16 : decode cX3_scoreAnew 16 = .ok (.aload_n 0, 1) := by decide +kernel
theorem dX3_scoreAnew_17 : decode cX3_scoreAnew 17 = .ok (.getfield 12, 3) := by decide +kernel
theorem dX3_scoreAnew_20 : decode cX3_scoreAnew 20 = .ok (.aload_n 0, 1) := by decide +kernel
theorem dX3_scoreAnew_21 : decode cX3_scoreAnew 21 = .ok (.getfield 26, 3) := by decide +kernel
theorem dX3_scoreAnew_24 : decode cX3_scoreAnew 24 = .ok (.invokevirtual 111, 3) := by decide +kernel
theorem dX3_scoreAnew_27 : decode cX3_scoreAnew 27 = .ok (.putfield 42, 3) := by decide +kernel
theorem dX3_scoreAnew_30 : decode cX3_scoreAnew 30 = .ok (.return_, 1) := by decide +kernel
theorem dX3_keepIfBest_0 : decode cX3_keepIfBest 0 = .ok (.aload_n 0, 1) := by decide +kernel
theorem dX3_keepIfBest_1 : decode cX3_keepIfBest 1 = .ok (.getfield 38, 3) := by decide +kernel
theorem dX3_keepIfBest_4 : decode cX3_keepIfBest 4 = .ok (.aload_n 0, 1) := by decide +kernel
theorem dX3_keepIfBest_5 : decode cX3_keepIfBest 5 = .ok (.getfield 42, 3) := by decide +kernel
theorem dX3_keepIfBest_8 : decode cX3_keepIfBest 8 = .ok (.lcmp, 1) := by decide +kernel
theorem dX3_keepIfBest_9 : decode cX3_keepIfBest 9 = .ok (.ifCond .ge 36, 3) := by decide +kernel
theorem dX3_keepIfBest_12 : decode cX3_keepIfBest 12 = .ok (.aload_n 0, 1) := by decide +kernel
theorem dX3_keepIfBest_13 : decode cX3_keepIfBest 13 = .ok (.getfield 22, 3) := by decide +kernel
theorem dX3_keepIfBest_16 : decode cX3_keepIfBest 16 = .ok (.iconst 0, 1) := by decide +kernel
theorem dX3_keepIfBest_17 : decode cX3_keepIfBest 17 = .ok (.aload_n 0, 1) := by decide +kernel
theorem dX3_keepIfBest_18 : decode cX3_keepIfBest 18 = .ok (.getfield 26, 3) := by decide +kernel
theorem dX3_keepIfBest_21 : decode cX3_keepIfBest 21 = .ok (.iconst 0, 1) := by decide +kernel
theorem dX3_keepIfBest_22 : decode cX3_keepIfBest 22 = .ok (.bipush 16, 2) := by decide +kernel
theorem dX3_keepIfBest_24 : decode cX3_keepIfBest 24 = .ok (.invokestatic 115, 3) := by decide +kernel
theorem dX3_keepIfBest_27 : decode cX3_keepIfBest 27 = .ok (.aload_n 0, 1) := by decide +kernel
theorem dX3_keepIfBest_28 : decode cX3_keepIfBest 28 = .ok (.aload_n 0, 1) := by decide +kernel
theorem dX3_keepIfBest_29 : decode cX3_keepIfBest 29 = .ok (.getfield 38, 3) := by decide +kernel
theorem dX3_keepIfBest_32 : decode cX3_keepIfBest 32 = .ok (.putfield 42, 3) := by decide +kernel
theorem dX3_keepIfBest_35 : decode cX3_keepIfBest 35 = .ok (.aload_n 0, 1) := by decide +kernel
theorem dX3_keepIfBest_36 : decode cX3_keepIfBest 36 = .ok (.dup, 1) := by decide +kernel
theorem dX3_keepIfBest_37 : decode cX3_keepIfBest 37 = .ok (.getfield 52, 3) := by decide +kernel
theorem dX3_keepIfBest_40 : decode cX3_keepIfBest 40 = .ok (.iconst 1, 1) := by decide +kernel
theorem dX3_keepIfBest_41 : decode cX3_keepIfBest 41 = .ok (.iadd, 1) := by decide +kernel
theorem dX3_keepIfBest_42 : decode cX3_keepIfBest 42 = .ok (.putfield 52, 3) := by decide +kernel
theorem dX3_keepIfBest_45 : decode cX3_keepIfBest 45 = .ok (.return_, 1) := by decide +kernel
theorem dX3_makeSteps_0 : decode cX3_makeSteps 0 = .ok (.aload_n 0, 1) := by decide +kernel
theorem dX3_makeSteps_1 : decode cX3_makeSteps 1 = .ok (.getfield 49, 3) := by decide +kernel
theorem dX3_makeSteps_4 : decode cX3_makeSteps 4 = .ok (.istore_n 2, 1) := by decide +kernel
theorem dX3_makeSteps_5 : decode cX3_makeSteps 5 = .ok (.aload_n 0, 1) := by decide +kernel
theorem dX3_makeSteps_6 : decode cX3_makeSteps 6 = .ok (.getfield 12, 3) := by decide +kernel
theorem dX3_makeSteps_9 : decode cX3_makeSteps 9 = .ok (.aload_n 0, 1) := by decide +kernel
theorem dX3_makeSteps_10 : decode cX3_makeSteps 10 = .ok (.getfield 35, 3) := by decide +kernel
theorem dX3_makeSteps_13 : decode cX3_makeSteps 13 = .ok (.invokevirtual 121, 3) := by decide +kernel
theorem dX3_makeSteps_16 : decode cX3_makeSteps 16 = .ok (.istore_n 3, 1) := by decide +kernel
theorem dX3_makeSteps_17 : decode cX3_makeSteps 17 = .ok (.iconst 0, 1) := by decide +kernel
theorem dX3_makeSteps_18 : decode cX3_makeSteps 18 = .ok (.istore 4, 2) := by decide +kernel
theorem dX3_makeSteps_20 : decode cX3_makeSteps 20 = .ok (.iload 4, 2) := by decide +kernel
theorem dX3_makeSteps_22 : decode cX3_makeSteps 22 = .ok (.iload_n 1, 1) := by decide +kernel
theorem dX3_makeSteps_23 : decode cX3_makeSteps 23 = .ok (.if_icmp .ge 14, 3) := by decide +kernel
theorem dX3_makeSteps_26 : decode cX3_makeSteps 26 = .ok (.aload_n 0, 1) := by decide +kernel
theorem dX3_makeSteps_27 : decode cX3_makeSteps 27 = .ok (.iload_n 3, 1) := by decide +kernel
theorem dX3_makeSteps_28 : decode cX3_makeSteps 28 = .ok (.invokevirtual 125, 3) := by decide +kernel
theorem dX3_makeSteps_31 : decode cX3_makeSteps 31 = .ok (.iinc 4 1, 3) := by decide +kernel
theorem dX3_makeSteps_34 : decode cX3_makeSteps 34 = .ok (.goto (-14), 3) := by decide +kernel
theorem dX3_makeSteps_37 : decode cX3_makeSteps 37 = .ok (.aload_n 0, 1) := by decide +kernel
theorem dX3_makeSteps_38 : decode cX3_makeSteps 38 = .ok (.getfield 49, 3) := by decide +kernel
theorem dX3_makeSteps_41 : decode cX3_makeSteps 41 = .ok (.iload_n 2, 1) := by decide +kernel
theorem dX3_makeSteps_42 : decode cX3_makeSteps 42 = .ok (.isub, 1) := by decide +kernel
theorem dX3_makeSteps_43 : decode cX3_makeSteps 43 = .ok (.ireturn, 1) := by decide +kernel
theorem dX3_makeStep_0 : decode cX3_makeStep 0 = .ok (.aload_n 0, 1) := by decide +kernel
theorem dX3_makeStep_1 : decode cX3_makeStep 1 = .ok (.aload_n 0, 1) := by decide +kernel
theorem dX3_makeStep_2 : decode cX3_makeStep 2 = .ok (.getfield 55, 3) := by decide +kernel
theorem dX3_makeStep_5 : decode cX3_makeStep 5 = .ok (.ldc 129, 2) := by decide +kernel
theorem dX3_makeStep_7 : decode cX3_makeStep 7 = .ok (.imul, 1) := by decide +kernel
theorem dX3_makeStep_8 : decode cX3_makeStep 8 = .ok (.sipush 12345, 3) := by decide +kernel
theorem dX3_makeStep_11 : decode cX3_makeStep 11 = .ok (.iadd, 1) := by decide +kernel
theorem dX3_makeStep_12 : decode cX3_makeStep 12 = .ok (.putfield 55, 3) := by decide +kernel
theorem dX3_makeStep_15 : decode cX3_makeStep 15 = .ok (.aload_n 0, 1) := by decide +kernel
theorem dX3_makeStep_16 : decode cX3_makeStep 16 = .ok (.invokevirtual 130, 3) := by decide +kernel
theorem dX3_makeStep_19 : decode cX3_makeStep 19 = .ok (.istore_n 2, 1) := by decide +kernel
theorem dX3_makeStep_20 : decode cX3_makeStep 20 = .ok (.iload_n 1, 1) := by decide +kernel
theorem dX3_makeStep_21 : decode cX3_makeStep 21 = .ok (.ifCond .le 14, 3) := by decide +kernel
theorem dX3_makeStep_24 : decode cX3_makeStep 24 = .ok (.aload_n 0, 1) := by decide +kernel
theorem dX3_makeStep_25 : decode cX3_makeStep 25 = .ok (.iload_n 1, 1) := by decide +kernel
theorem dX3_makeStep_26 : decode cX3_makeStep 26 = .ok (.aload_n 0, 1) := by decide +kernel
theorem dX3_makeStep_27 : decode cX3_makeStep 27 = .ok (.getfield 58, 3) := by decide +kernel
theorem dX3_makeStep_30 : decode cX3_makeStep 30 = .ok (.iload_n 2, 1) := by decide +kernel
theorem dX3_makeStep_31 : decode cX3_makeStep 31 = .ok (.laload, 1) := by decide +kernel
theorem dX3_makeStep_32 : decode cX3_makeStep 32 = .ok (.invokevirtual 134, 3) := by decide +kernel
theorem dX3_makeStep_35 : decode cX3_makeStep 35 = .ok (.aload_n 0, 1) := by decide +kernel
theorem dX3_makeStep_36 : decode cX3_makeStep 36 = .ok (.getfield 58, 3) := by decide +kernel
theorem dX3_makeStep_39 : decode cX3_makeStep 39 = .ok (.iload_n 2, 1) := by decide +kernel
theorem dX3_makeStep_40 : decode cX3_makeStep 40 = .ok (.aload_n 0, 1) := by decide +kernel
theorem dX3_makeStep_41 : decode cX3_makeStep 41 = .ok (.getfield 38, 3) := by decide +kernel
theorem dX3_makeStep_44 : decode cX3_makeStep 44 = .ok (.lastore, 1) := by decide +kernel
theorem dX3_makeStep_45 : decode cX3_makeStep 45 = .ok (.aload_n 0, 1) := by decide +kernel
theorem dX3_makeStep_46 : decode cX3_makeStep 46 = .ok (.invokevirtual 89, 3) := by decide +kernel
theorem dX3_makeStep_49 : decode cX3_makeStep 49 = .ok (.aload_n 0, 1) := by decide +kernel
theorem dX3_makeStep_50 : decode cX3_makeStep 50 = .ok (.dup, 1) := by decide +kernel
theorem dX3_makeStep_51 : decode cX3_makeStep 51 = .ok (.getfield 45, 3) := by decide +kernel
theorem dX3_makeStep_54 : decode cX3_makeStep 54 = .ok (.iconst 1, 1) := by decide +kernel
theorem dX3_makeStep_55 : decode cX3_makeStep 55 = .ok (.iadd, 1) := by decide +kernel
theorem dX3_makeStep_56 : decode cX3_makeStep 56 = .ok (.putfield 45, 3) := by decide +kernel
theorem dX3_makeStep_59 : decode cX3_makeStep 59 = .ok (.return_, 1) := by decide +kernel
theorem dX3_tryPlan_0 : decode cX3_tryPlan 0 = .ok (.aload_n 0, 1) := by decide +kernel
theorem dX3_tryPlan_1 : decode cX3_tryPlan 1 = .ok (.getfield 55, 3) := by decide +kernel
theorem dX3_tryPlan_4 : decode cX3_tryPlan 4 = .ok (.bipush 8, 2) := by decide +kernel
theorem dX3_tryPlan_6 : decode cX3_tryPlan 6 = .ok (.iushr, 1) := by decide +kernel
theorem dX3_tryPlan_7 : decode cX3_tryPlan 7 = .ok (.iconst 4, 1) := by decide +kernel
theorem dX3_tryPlan_8 : decode cX3_tryPlan 8 = .ok (.irem, 1) := by decide +kernel
theorem dX3_tryPlan_9 : decode cX3_tryPlan 9 = .ok (.iconst 3, 1) := by decide +kernel
theorem dX3_tryPlan_10 : decode cX3_tryPlan 10 = .ok (.if_icmp .ne 7, 3) := by decide +kernel
theorem dX3_tryPlan_13 : decode cX3_tryPlan 13 = .ok (.iconst 1, 1) := by decide +kernel
theorem dX3_tryPlan_14 : decode cX3_tryPlan 14 = .ok (.goto 4, 3) := by decide +kernel
theorem dX3_tryPlan_17 : decode cX3_tryPlan 17 = .ok (.iconst 0, 1) := by decide +kernel
theorem dX3_tryPlan_18 : decode cX3_tryPlan 18 = .ok (.istore 4, 2) := by decide +kernel
theorem dX3_tryPlan_20 : decode cX3_tryPlan 20 = .ok (.aload_n 0, 1) := by decide +kernel
theorem dX3_tryPlan_21 : decode cX3_tryPlan 21 = .ok (.getfield 35, 3) := by decide +kernel
theorem dX3_tryPlan_24 : decode cX3_tryPlan 24 = .ok (.aload_n 0, 1) := by decide +kernel
theorem dX3_tryPlan_25 : decode cX3_tryPlan 25 = .ok (.getfield 55, 3) := by decide +kernel
theorem dX3_tryPlan_28 : decode cX3_tryPlan 28 = .ok (.bipush 16, 2) := by decide +kernel
theorem dX3_tryPlan_30 : decode cX3_tryPlan 30 = .ok (.iushr, 1) := by decide +kernel
theorem dX3_tryPlan_31 : decode cX3_tryPlan 31 = .ok (.iload_n 1, 1) := by decide +kernel
theorem dX3_tryPlan_32 : decode cX3_tryPlan 32 = .ok (.irem, 1) := by decide +kernel
theorem dX3_tryPlan_33 : decode cX3_tryPlan 33 = .ok (.iaload, 1) := by decide +kernel
theorem dX3_tryPlan_34 : decode cX3_tryPlan 34 = .ok (.istore 5, 2) := by decide +kernel
theorem dX3_tryPlan_36 : decode cX3_tryPlan 36 = .ok (.iload 4, 2) := by decide +kernel
theorem dX3_tryPlan_38 : decode cX3_tryPlan 38 = .ok (.ifCond .eq 20, 3) := by decide +kernel
theorem dX3_tryPlan_41 : decode cX3_tryPlan 41 = .ok (.aload_n 0, 1) := by decide +kernel
theorem dX3_tryPlan_42 : decode cX3_tryPlan 42 = .ok (.getfield 35, 3) := by decide +kernel
theorem dX3_tryPlan_45 : decode cX3_tryPlan 45 = .ok (.aload_n 0, 1) := by decide +kernel
theorem dX3_tryPlan_46 : decode cX3_tryPlan 46 = .ok (.getfield 55, 3) := by decide +kernel
theorem dX3_tryPlan_49 : decode cX3_tryPlan 49 = .ok (.bipush 20, 2) := by decide +kernel
theorem dX3_tryPlan_51 : decode cX3_tryPlan 51 = .ok (.iushr, 1) := by decide +kernel
theorem dX3_tryPlan_52 : decode cX3_tryPlan 52 = .ok (.iload_n 1, 1) := by decide +kernel
theorem dX3_tryPlan_53 : decode cX3_tryPlan 53 = .ok (.irem, 1) := by decide +kernel
theorem dX3_tryPlan_54 : decode cX3_tryPlan 54 = .ok (.iaload, 1) := by decide +kernel
theorem dX3_tryPlan_55 : decode cX3_tryPlan 55 = .ok (.goto 5, 3) := by decide +kernel
theorem dX3_tryPlan_58 : decode cX3_tryPlan 58 = .ok (.iload 5, 2) := by decide +kernel
theorem dX3_tryPlan_60 : decode cX3_tryPlan 60 = .ok (.istore 6, 2) := by decide +kernel
theorem dX3_tryPlan_62 : decode cX3_tryPlan 62 = .ok (.aload_n 0, 1) := by decide +kernel
theorem dX3_tryPlan_63 : decode cX3_tryPlan 63 = .ok (.getfield 22, 3) := by decide +kernel
theorem dX3_tryPlan_66 : decode cX3_tryPlan 66 = .ok (.iload 5, 2) := by decide +kernel
theorem dX3_tryPlan_68 : decode cX3_tryPlan 68 = .ok (.iaload, 1) := by decide +kernel
theorem dX3_tryPlan_69 : decode cX3_tryPlan 69 = .ok (.istore 7, 2) := by decide +kernel
theorem dX3_tryPlan_71 : decode cX3_tryPlan 71 = .ok (.aload_n 0, 1) := by decide +kernel
theorem dX3_tryPlan_72 : decode cX3_tryPlan 72 = .ok (.getfield 22, 3) := by decide +kernel
theorem dX3_tryPlan_75 : decode cX3_tryPlan 75 = .ok (.iload 6, 2) := by decide +kernel
theorem dX3_tryPlan_77 : decode cX3_tryPlan 77 = .ok (.iaload, 1) := by decide +kernel
theorem dX3_tryPlan_78 : decode cX3_tryPlan 78 = .ok (.istore 8, 2) := by decide +kernel
theorem dX3_tryPlan_80 : decode cX3_tryPlan 80 = .ok (.iload 4, 2) := by decide +kernel
theorem dX3_tryPlan_82 : decode cX3_tryPlan 82 = .ok (.ifCond .eq 24, 3) := by decide +kernel
theorem dX3_tryPlan_85 : decode cX3_tryPlan 85 = .ok (.aload_n 0, 1) := by decide +kernel
theorem dX3_tryPlan_86 : decode cX3_tryPlan 86 = .ok (.getfield 22, 3) := by decide +kernel
theorem dX3_tryPlan_89 : decode cX3_tryPlan 89 = .ok (.iload 5, 2) := by decide +kernel
theorem dX3_tryPlan_91 : decode cX3_tryPlan 91 = .ok (.iload 8, 2) := by decide +kernel
theorem dX3_tryPlan_93 : decode cX3_tryPlan 93 = .ok (.iastore, 1) := by decide +kernel
theorem dX3_tryPlan_94 : decode cX3_tryPlan 94 = .ok (.aload_n 0, 1) := by decide +kernel
theorem dX3_tryPlan_95 : decode cX3_tryPlan 95 = .ok (.getfield 22, 3) := by decide +kernel
theorem dX3_tryPlan_98 : decode cX3_tryPlan 98 = .ok (.iload 6, 2) := by decide +kernel
theorem dX3_tryPlan_100 : decode cX3_tryPlan 100 = .ok (.iload 7, 2) := by decide +kernel
theorem dX3_tryPlan_102 : decode cX3_tryPlan 102 = .ok (.iastore, 1) := by decide +kernel
theorem dX3_tryPlan_103 : decode cX3_tryPlan 103 = .ok (.goto 36, 3) := by decide +kernel
theorem dX3_tryPlan_106 : decode cX3_tryPlan 106 = .ok (.aload_n 0, 1) := by decide +kernel
theorem dX3_tryPlan_107 : decode cX3_tryPlan 107 = .ok (.getfield 55, 3) := by decide +kernel
theorem dX3_tryPlan_110 : decode cX3_tryPlan 110 = .ok (.bipush 24, 2) := by decide +kernel
theorem dX3_tryPlan_112 : decode cX3_tryPlan 112 = .ok (.iushr, 1) := by decide +kernel
theorem dX3_tryPlan_113 : decode cX3_tryPlan 113 = .ok (.bipush 7, 2) := by decide +kernel
theorem dX3_tryPlan_115 : decode cX3_tryPlan 115 = .ok (.irem, 1) := by decide +kernel
theorem dX3_tryPlan_116 : decode cX3_tryPlan 116 = .ok (.istore 9, 2) := by decide +kernel
theorem dX3_tryPlan_118 : decode cX3_tryPlan 118 = .ok (.aload_n 0, 1) := by decide +kernel
theorem dX3_tryPlan_119 : decode cX3_tryPlan 119 = .ok (.getfield 22, 3) := by decide +kernel
theorem dX3_tryPlan_122 : decode cX3_tryPlan 122 = .ok (.iload 5, 2) := by decide +kernel
theorem dX3_tryPlan_124 : decode cX3_tryPlan 124 = .ok (.iload 9, 2) := by decide +kernel
theorem dX3_tryPlan_126 : decode cX3_tryPlan 126 = .ok (.invokestatic 138, 3) := by decide +kernel
theorem dX3_tryPlan_129 : decode cX3_tryPlan 129 = .ok (.ifCond .eq 8, 3) := by decide +kernel
theorem dX3_tryPlan_132 : decode cX3_tryPlan 132 = .ok (.iload 9, 2) := by decide +kernel
theorem dX3_tryPlan_134 : decode cX3_tryPlan 134 = .ok (.goto 4, 3) := by decide +kernel
theorem dX3_tryPlan_137 : decode cX3_tryPlan 137 = .ok (.iconst (-1), 1) := by decide +kernel
theorem dX3_tryPlan_138 : decode cX3_tryPlan 138 = .ok (.iastore, 1) := by decide +kernel
theorem dX3_tryPlan_139 : decode cX3_tryPlan 139 = .ok (.aload_n 0, 1) := by decide +kernel
theorem dX3_tryPlan_140 : decode cX3_tryPlan 140 = .ok (.getfield 12, 3) := by decide +kernel
theorem dX3_tryPlan_143 : decode cX3_tryPlan 143 = .ok (.aload_n 0, 1) := by decide +kernel
theorem dX3_tryPlan_144 : decode cX3_tryPlan 144 = .ok (.getfield 22, 3) := by decide +kernel
theorem dX3_tryPlan_147 : decode cX3_tryPlan 147 = .ok (.invokevirtual 111, 3) := by decide +kernel
theorem dX3_tryPlan_150 : decode cX3_tryPlan 150 = .ok (.lstore 9, 2) := by decide +kernel
theorem dX3_tryPlan_152 : decode cX3_tryPlan 152 = .ok (.aload_n 0, 1) := by decide +kernel
theorem dX3_tryPlan_153 : decode cX3_tryPlan 153 = .ok (.getfield 38, 3) := by decide +kernel
theorem dX3_tryPlan_156 : decode cX3_tryPlan 156 = .ok (.lload 9, 2) := by decide +kernel
theorem dX3_tryPlan_158 : decode cX3_tryPlan 158 = .ok (.lcmp, 1) := by decide +kernel
theorem dX3_tryPlan_159 : decode cX3_tryPlan 159 = .ok (.ifCond .ge 31, 3) := by decide +kernel
theorem dX3_tryPlan_162 : decode cX3_tryPlan 162 = .ok (.lload_n 2, 1) := by decide +kernel
theorem dX3_tryPlan_163 : decode cX3_tryPlan 163 = .ok (.lload 9, 2) := by decide +kernel
theorem dX3_tryPlan_165 : decode cX3_tryPlan 165 = .ok (.lcmp, 1) := by decide +kernel
theorem dX3_tryPlan_166 : decode cX3_tryPlan 166 = .ok (.ifCond .ge 24, 3) := by decide +kernel
theorem dX3_tryPlan_169 : decode cX3_tryPlan 169 = .ok (.aload_n 0, 1) := by decide +kernel
theorem dX3_tryPlan_170 : decode cX3_tryPlan 170 = .ok (.getfield 22, 3) := by decide +kernel
theorem dX3_tryPlan_173 : decode cX3_tryPlan 173 = .ok (.iload 5, 2) := by decide +kernel
theorem dX3_tryPlan_175 : decode cX3_tryPlan 175 = .ok (.iload 7, 2) := by decide +kernel
theorem dX3_tryPlan_177 : decode cX3_tryPlan 177 = .ok (.iastore, 1) := by decide +kernel
theorem dX3_tryPlan_178 : decode cX3_tryPlan 178 = .ok (.aload_n 0, 1) := by decide +kernel
theorem dX3_tryPlan_179 : decode cX3_tryPlan 179 = .ok (.getfield 22, 3) := by decide +kernel
theorem dX3_tryPlan_182 : decode cX3_tryPlan 182 = .ok (.iload 6, 2) := by decide +kernel
theorem dX3_tryPlan_184 : decode cX3_tryPlan 184 = .ok (.iload 8, 2) := by decide +kernel
theorem dX3_tryPlan_186 : decode cX3_tryPlan 186 = .ok (.iastore, 1) := by decide +kernel
theorem dX3_tryPlan_187 : decode cX3_tryPlan 187 = .ok (.goto 19, 3) := by decide +kernel
theorem dX3_tryPlan_190 : decode cX3_tryPlan 190 = .ok (.aload_n 0, 1) := by decide +kernel
theorem dX3_tryPlan_191 : decode cX3_tryPlan 191 = .ok (.lload 9, 2) := by decide +kernel
theorem dX3_tryPlan_193 : decode cX3_tryPlan 193 = .ok (.putfield 38, 3) := by decide +kernel
theorem dX3_tryPlan_196 : decode cX3_tryPlan 196 = .ok (.aload_n 0, 1) := by decide +kernel
theorem dX3_tryPlan_197 : decode cX3_tryPlan 197 = .ok (.dup, 1) := by decide +kernel
theorem dX3_tryPlan_198 : decode cX3_tryPlan 198 = .ok (.getfield 49, 3) := by decide +kernel
theorem dX3_tryPlan_201 : decode cX3_tryPlan 201 = .ok (.iconst 1, 1) := by decide +kernel
theorem dX3_tryPlan_202 : decode cX3_tryPlan 202 = .ok (.iadd, 1) := by decide +kernel
theorem dX3_tryPlan_203 : decode cX3_tryPlan 203 = .ok (.putfield 49, 3) := by decide +kernel
theorem dX3_tryPlan_206 : decode cX3_tryPlan 206 = .ok (.return_, 1) := by decide +kernel
theorem dX3_keepIn_0 : decode cX3_keepIn 0 = .ok (.aload_n 1, 1) := by decide +kernel
theorem dX3_keepIn_1 : decode cX3_keepIn 1 = .ok (.aload_n 0, 1) := by decide +kernel
theorem dX3_keepIn_2 : decode cX3_keepIn 2 = .ok (.getfield 12, 3) := by decide +kernel
theorem dX3_keepIn_5 : decode cX3_keepIn 5 = .ok (.getfield 68, 3) := by decide +kernel
theorem dX3_keepIn_8 : decode cX3_keepIn 8 = .ok (.putfield 142, 3) := by decide +kernel
theorem dX3_keepIn_11 : decode cX3_keepIn 11 = .ok (.aload_n 0, 1) := by decide +kernel
theorem dX3_keepIn_12 : decode cX3_keepIn 12 = .ok (.getfield 22, 3) := by decide +kernel
theorem dX3_keepIn_15 : decode cX3_keepIn 15 = .ok (.iconst 0, 1) := by decide +kernel
theorem dX3_keepIn_16 : decode cX3_keepIn 16 = .ok (.aload_n 1, 1) := by decide +kernel
theorem dX3_keepIn_17 : decode cX3_keepIn 17 = .ok (.getfield 143, 3) := by decide +kernel
theorem dX3_keepIn_20 : decode cX3_keepIn 20 = .ok (.iconst 0, 1) := by decide +kernel
theorem dX3_keepIn_21 : decode cX3_keepIn 21 = .ok (.bipush 16, 2) := by decide +kernel
theorem dX3_keepIn_23 : decode cX3_keepIn 23 = .ok (.invokestatic 115, 3) := by decide +kernel
theorem dX3_keepIn_26 : decode cX3_keepIn 26 = .ok (.aload_n 0, 1) := by decide +kernel
theorem dX3_keepIn_27 : decode cX3_keepIn 27 = .ok (.getfield 26, 3) := by decide +kernel
theorem dX3_keepIn_30 : decode cX3_keepIn 30 = .ok (.iconst 0, 1) := by decide +kernel
theorem dX3_keepIn_31 : decode cX3_keepIn 31 = .ok (.aload_n 1, 1) := by decide +kernel
theorem dX3_keepIn_32 : decode cX3_keepIn 32 = .ok (.getfield 144, 3) := by decide +kernel
theorem dX3_keepIn_35 : decode cX3_keepIn 35 = .ok (.iconst 0, 1) := by decide +kernel
theorem dX3_keepIn_36 : decode cX3_keepIn 36 = .ok (.bipush 16, 2) := by decide +kernel
theorem dX3_keepIn_38 : decode cX3_keepIn 38 = .ok (.invokestatic 115, 3) := by decide +kernel
theorem dX3_keepIn_41 : decode cX3_keepIn 41 = .ok (.aload_n 0, 1) := by decide +kernel
theorem dX3_keepIn_42 : decode cX3_keepIn 42 = .ok (.getfield 58, 3) := by decide +kernel
theorem dX3_keepIn_45 : decode cX3_keepIn 45 = .ok (.iconst 0, 1) := by decide +kernel
theorem dX3_keepIn_46 : decode cX3_keepIn 46 = .ok (.aload_n 1, 1) := by decide +kernel
theorem dX3_keepIn_47 : decode cX3_keepIn 47 = .ok (.getfield 145, 3) := by decide +kernel
theorem dX3_keepIn_50 : decode cX3_keepIn 50 = .ok (.iconst 0, 1) := by decide +kernel
theorem dX3_keepIn_51 : decode cX3_keepIn 51 = .ok (.aload_n 0, 1) := by decide +kernel
theorem dX3_keepIn_52 : decode cX3_keepIn 52 = .ok (.getfield 58, 3) := by decide +kernel
theorem dX3_keepIn_55 : decode cX3_keepIn 55 = .ok (.arraylength, 1) := by decide +kernel
theorem dX3_keepIn_56 : decode cX3_keepIn 56 = .ok (.invokestatic 115, 3) := by decide +kernel
theorem dX3_keepIn_59 : decode cX3_keepIn 59 = .ok (.return_, 1) := by decide +kernel
theorem dX3_goBackTo_0 : decode cX3_goBackTo 0 = .ok (.aload_n 0, 1) := by decide +kernel
theorem dX3_goBackTo_1 : decode cX3_goBackTo 1 = .ok (.getfield 12, 3) := by decide +kernel
theorem dX3_goBackTo_4 : decode cX3_goBackTo 4 = .ok (.getfield 68, 3) := by decide +kernel
theorem dX3_goBackTo_7 : decode cX3_goBackTo 7 = .ok (.istore_n 3, 1) := by decide +kernel
theorem dX3_goBackTo_8 : decode cX3_goBackTo 8 = .ok (.aload_n 0, 1) := by decide +kernel
theorem dX3_goBackTo_9 : decode cX3_goBackTo 9 = .ok (.getfield 12, 3) := by decide +kernel
theorem dX3_goBackTo_12 : decode cX3_goBackTo 12 = .ok (.aload_n 2, 1) := by decide +kernel
theorem dX3_goBackTo_13 : decode cX3_goBackTo 13 = .ok (.aload_n 1, 1) := by decide +kernel
theorem dX3_goBackTo_14 : decode cX3_goBackTo 14 = .ok (.getfield 142, 3) := by decide +kernel
theorem dX3_goBackTo_17 : decode cX3_goBackTo 17 = .ok (.invokevirtual 79, 3) := by decide +kernel
theorem dX3_goBackTo_20 : decode cX3_goBackTo 20 = .ok (.aload_n 1, 1) := by decide +kernel
theorem dX3_goBackTo_21 : decode cX3_goBackTo 21 = .ok (.getfield 143, 3) := by decide +kernel
theorem dX3_goBackTo_24 : decode cX3_goBackTo 24 = .ok (.iconst 0, 1) := by decide +kernel
theorem dX3_goBackTo_25 : decode cX3_goBackTo 25 = .ok (.aload_n 0, 1) := by decide +kernel
theorem dX3_goBackTo_26 : decode cX3_goBackTo 26 = .ok (.getfield 22, 3) := by decide +kernel
theorem dX3_goBackTo_29 : decode cX3_goBackTo 29 = .ok (.iconst 0, 1) := by decide +kernel
theorem dX3_goBackTo_30 : decode cX3_goBackTo 30 = .ok (.bipush 16, 2) := by decide +kernel
theorem dX3_goBackTo_32 : decode cX3_goBackTo 32 = .ok (.invokestatic 115, 3) := by decide +kernel
theorem dX3_goBackTo_35 : decode cX3_goBackTo 35 = .ok (.aload_n 1, 1) := by decide +kernel
theorem dX3_goBackTo_36 : decode cX3_goBackTo 36 = .ok (.getfield 144, 3) := by decide +kernel
theorem dX3_goBackTo_39 : decode cX3_goBackTo 39 = .ok (.iconst 0, 1) := by decide +kernel
theorem dX3_goBackTo_40 : decode cX3_goBackTo 40 = .ok (.aload_n 0, 1) := by decide +kernel
theorem dX3_goBackTo_41 : decode cX3_goBackTo 41 = .ok (.getfield 26, 3) := by decide +kernel
theorem dX3_goBackTo_44 : decode cX3_goBackTo 44 = .ok (.iconst 0, 1) := by decide +kernel
theorem dX3_goBackTo_45 : decode cX3_goBackTo 45 = .ok (.bipush 16, 2) := by decide +kernel
theorem dX3_goBackTo_47 : decode cX3_goBackTo 47 = .ok (.invokestatic 115, 3) := by decide +kernel
theorem dX3_goBackTo_50 : decode cX3_goBackTo 50 = .ok (.aload_n 1, 1) := by decide +kernel
theorem dX3_goBackTo_51 : decode cX3_goBackTo 51 = .ok (.getfield 145, 3) := by decide +kernel
theorem dX3_goBackTo_54 : decode cX3_goBackTo 54 = .ok (.iconst 0, 1) := by decide +kernel
theorem dX3_goBackTo_55 : decode cX3_goBackTo 55 = .ok (.aload_n 0, 1) := by decide +kernel
theorem dX3_goBackTo_56 : decode cX3_goBackTo 56 = .ok (.getfield 58, 3) := by decide +kernel
theorem dX3_goBackTo_59 : decode cX3_goBackTo 59 = .ok (.iconst 0, 1) := by decide +kernel
theorem dX3_goBackTo_60 : decode cX3_goBackTo 60 = .ok (.aload_n 0, 1) := by decide +kernel
theorem dX3_goBackTo_61 : decode cX3_goBackTo 61 = .ok (.getfield 58, 3) := by decide +kernel
theorem dX3_goBackTo_64 : decode cX3_goBackTo 64 = .ok (.arraylength, 1) := by decide +kernel
theorem dX3_goBackTo_65 : decode cX3_goBackTo 65 = .ok (.invokestatic 115, 3) := by decide +kernel
theorem dX3_goBackTo_68 : decode cX3_goBackTo 68 = .ok (.aload_n 0, 1) := by decide +kernel
theorem dX3_goBackTo_69 : decode cX3_goBackTo 69 = .ok (.invokevirtual 86, 3) := by decide +kernel
theorem dX3_goBackTo_72 : decode cX3_goBackTo 72 = .ok (.aload_n 0, 1) := by decide +kernel
theorem dX3_goBackTo_73 : decode cX3_goBackTo 73 = .ok (.aload_n 2, 1) := by decide +kernel
theorem dX3_goBackTo_74 : decode cX3_goBackTo 74 = .ok (.iload_n 3, 1) := by decide +kernel
theorem dX3_goBackTo_75 : decode cX3_goBackTo 75 = .ok (.invokevirtual 146, 3) := by decide +kernel
theorem dX3_goBackTo_78 : decode cX3_goBackTo 78 = .ok (.pop, 1) := by decide +kernel
theorem dX3_goBackTo_79 : decode cX3_goBackTo 79 = .ok (.return_, 1) := by decide +kernel
theorem dX3_isLike_0 : decode cX3_isLike 0 = .ok (.aload_n 0, 1) := by decide +kernel
theorem dX3_isLike_1 : decode cX3_isLike 1 = .ok (.getfield 12, 3) := by decide +kernel
theorem dX3_isLike_4 : decode cX3_isLike 4 = .ok (.getfield 68, 3) := by decide +kernel
theorem dX3_isLike_7 : decode cX3_isLike 7 = .ok (.aload_n 1, 1) := by decide +kernel
theorem dX3_isLike_8 : decode cX3_isLike 8 = .ok (.getfield 12, 3) := by decide +kernel
theorem dX3_isLike_11 : decode cX3_isLike 11 = .ok (.getfield 68, 3) := by decide +kernel
theorem dX3_isLike_14 : decode cX3_isLike 14 = .ok (.if_icmp .eq 5, 3) := by decide +kernel
theorem dX3_isLike_17 : decode cX3_isLike 17 = .ok (.iconst 0, 1) := by decide +kernel
theorem dX3_isLike_18 : decode cX3_isLike 18 = .ok (.ireturn, 1) := by decide +kernel
theorem dX3_isLike_19 : decode cX3_isLike 19 = .ok (.iconst 0, 1) := by decide +kernel
theorem dX3_isLike_20 : decode cX3_isLike 20 = .ok (.istore_n 2, 1) := by decide +kernel
theorem dX3_isLike_21 : decode cX3_isLike 21 = .ok (.iload_n 2, 1) := by decide +kernel
theorem dX3_isLike_22 : decode cX3_isLike 22 = .ok (.bipush 16, 2) := by decide +kernel
theorem dX3_isLike_24 : decode cX3_isLike 24 = .ok (.if_icmp .ge 41, 3) := by decide +kernel
theorem dX3_isLike_27 : decode cX3_isLike 27 = .ok (.aload_n 0, 1) := by decide +kernel
theorem dX3_isLike_28 : decode cX3_isLike 28 = .ok (.getfield 22, 3) := by decide +kernel
theorem dX3_isLike_31 : decode cX3_isLike 31 = .ok (.iload_n 2, 1) := by decide +kernel
theorem dX3_isLike_32 : decode cX3_isLike 32 = .ok (.iaload, 1) := by decide +kernel
theorem dX3_isLike_33 : decode cX3_isLike 33 = .ok (.aload_n 1, 1) := by decide +kernel
theorem dX3_isLike_34 : decode cX3_isLike 34 = .ok (.getfield 22, 3) := by decide +kernel
theorem dX3_isLike_37 : decode cX3_isLike 37 = .ok (.iload_n 2, 1) := by decide +kernel
theorem dX3_isLike_38 : decode cX3_isLike 38 = .ok (.iaload, 1) := by decide +kernel
theorem dX3_isLike_39 : decode cX3_isLike 39 = .ok (.if_icmp .ne 18, 3) := by decide +kernel
theorem dX3_isLike_42 : decode cX3_isLike 42 = .ok (.aload_n 0, 1) := by decide +kernel
theorem dX3_isLike_43 : decode cX3_isLike 43 = .ok (.getfield 26, 3) := by decide +kernel
theorem dX3_isLike_46 : decode cX3_isLike 46 = .ok (.iload_n 2, 1) := by decide +kernel
theorem dX3_isLike_47 : decode cX3_isLike 47 = .ok (.iaload, 1) := by decide +kernel
theorem dX3_isLike_48 : decode cX3_isLike 48 = .ok (.aload_n 1, 1) := by decide +kernel
theorem dX3_isLike_49 : decode cX3_isLike 49 = .ok (.getfield 26, 3) := by decide +kernel
theorem dX3_isLike_52 : decode cX3_isLike 52 = .ok (.iload_n 2, 1) := by decide +kernel
theorem dX3_isLike_53 : decode cX3_isLike 53 = .ok (.iaload, 1) := by decide +kernel
theorem dX3_isLike_54 : decode cX3_isLike 54 = .ok (.if_icmp .eq 5, 3) := by decide +kernel
theorem dX3_isLike_57 : decode cX3_isLike 57 = .ok (.iconst 0, 1) := by decide +kernel
theorem dX3_isLike_58 : decode cX3_isLike 58 = .ok (.ireturn, 1) := by decide +kernel
theorem dX3_isLike_59 : decode cX3_isLike 59 = .ok (.iinc 2 1, 3) := by decide +kernel
theorem dX3_isLike_62 : decode cX3_isLike 62 = .ok (.goto (-41), 3) := by decide +kernel
theorem dX3_isLike_65 : decode cX3_isLike 65 = .ok (.iconst 1, 1) := by decide +kernel
theorem dX3_isLike_66 : decode cX3_isLike 66 = .ok (.ireturn, 1) := by decide +kernel
theorem dX4_init_0 : decode cX4_init 0 = .ok (.aload_n 0, 1) := by decide +kernel
theorem dX4_init_1 : decode cX4_init 1 = .ok (.invokespecial 1, 3) := by decide +kernel
theorem dX4_init_4 : decode cX4_init 4 = .ok (.aload_n 0, 1) := by decide +kernel
theorem dX4_init_5 : decode cX4_init 5 = .ok (.new 7, 3) := by decide +kernel
theorem dX4_init_8 : decode cX4_init 8 = .ok (.dup, 1) := by decide +kernel
theorem dX4_init_9 : decode cX4_init 9 = .ok (.invokespecial 9, 3) := by decide +kernel
theorem dX4_init_12 : decode cX4_init 12 = .ok (.putfield 10, 3) := by decide +kernel
theorem dX4_init_15 : decode cX4_init 15 = .ok (.aload_n 0, 1) := by decide +kernel
theorem dX4_init_16 : decode cX4_init 16 = .ok (.new 16, 3) := by decide +kernel
theorem dX4_init_19 : decode cX4_init 19 = .ok (.dup, 1) := by decide +kernel
theorem dX4_init_20 : decode cX4_init 20 = .ok (.invokespecial 18, 3) := by decide +kernel
theorem dX4_init_23 : decode cX4_init 23 = .ok (.putfield 19, 3) := by decide +kernel
theorem dX4_init_26 : decode cX4_init 26 = .ok (.aload_n 0, 1) := by decide +kernel
theorem dX4_init_27 : decode cX4_init 27 = .ok (.new 16, 3) := by decide +kernel
theorem dX4_init_30 : decode cX4_init 30 = .ok (.dup, 1) := by decide +kernel
theorem dX4_init_31 : decode cX4_init 31 = .ok (.invokespecial 18, 3) := by decide +kernel
theorem dX4_init_34 : decode cX4_init 34 = .ok (.putfield 23, 3) := by decide +kernel
theorem dX4_init_37 : decode cX4_init 37 = .ok (.aload_n 0, 1) := by decide +kernel
theorem dX4_init_38 : decode cX4_init 38 = .ok (.iconst 3, 1) := by decide +kernel
theorem dX4_init_39 : decode cX4_init 39 = .ok (.anewarray 26, 3) := by decide +kernel
theorem dX4_init_42 : decode cX4_init 42 = .ok (.putfield 28, 3) := by decide +kernel
theorem dX4_init_45 : decode cX4_init 45 = .ok (.aload_n 0, 1) := by decide +kernel
theorem dX4_init_46 : decode cX4_init 46 = .ok (.iconst 0, 1) := by decide +kernel
theorem dX4_init_47 : decode cX4_init 47 = .ok (.putfield 32, 3) := by decide +kernel
theorem dX4_init_50 : decode cX4_init 50 = .ok (.return_, 1) := by decide +kernel
theorem dX4_come_0 : decode cX4_come 0 = .ok (.iload_n 1, 1) := by decide +kernel
theorem dX4_come_1 : decode cX4_come 1 = .ok (.iload_n 2, 1) := by decide +kernel
theorem dX4_come_2 : decode cX4_come 2 = .ok (.iload_n 3, 1) := by decide +kernel
theorem dX4_come_3 : decode cX4_come 3 = .ok (.invokestatic 36, 3) := by decide +kernel
theorem dX4_come_6 : decode cX4_come 6 = .ok (.ifCond .ne 6, 3) := by decide +kernel
theorem dX4_come_9 : decode cX4_come 9 = .ok (.bipush (-2), 2) := by decide +kernel
theorem dX4_come_11 : decode cX4_come 11 = .ok (.ireturn, 1) := by decide +kernel
theorem dX4_come_12 : decode cX4_come 12 = .ok (.aload_n 0, 1) := by decide +kernel
theorem dX4_come_13 : decode cX4_come 13 = .ok (.getfield 19, 3) := by decide +kernel
theorem dX4_come_16 : decode cX4_come 16 = .ok (.getfield 40, 3) := by decide +kernel
theorem dX4_come_19 : decode cX4_come 19 = .ok (.bipush 16, 2) := by decide +kernel
theorem dX4_come_21 : decode cX4_come 21 = .ok (.if_icmp .lt 6, 3) := by decide +kernel
theorem dX4_come_24 : decode cX4_come 24 = .ok (.bipush (-3), 2) := by decide +kernel
theorem dX4_come_26 : decode cX4_come 26 = .ok (.ireturn, 1) := by decide +kernel
theorem dX4_come_27 : decode cX4_come 27 = .ok (.aload_n 0, 1) := by decide +kernel
theorem dX4_come_28 : decode cX4_come 28 = .ok (.iconst 0, 1) := by decide +kernel
theorem dX4_come_29 : decode cX4_come 29 = .ok (.aload_n 0, 1) := by decide +kernel
theorem dX4_come_30 : decode cX4_come 30 = .ok (.getfield 19, 3) := by decide +kernel
theorem dX4_come_33 : decode cX4_come 33 = .ok (.getfield 40, 3) := by decide +kernel
theorem dX4_come_36 : decode cX4_come 36 = .ok (.iload_n 1, 1) := by decide +kernel
theorem dX4_come_37 : decode cX4_come 37 = .ok (.iload_n 2, 1) := by decide +kernel
theorem dX4_come_38 : decode cX4_come 38 = .ok (.iload_n 3, 1) := by decide +kernel
theorem dX4_come_39 : decode cX4_come 39 = .ok (.invokevirtual 43, 3) := by decide +kernel
theorem dX4_come_42 : decode cX4_come 42 = .ok (.ireturn, 1) := by decide +kernel
theorem dX4_go_0 : decode cX4_go 0 = .ok (.aload_n 0, 1) := by decide +kernel
theorem dX4_go_1 : decode cX4_go 1 = .ok (.getfield 19, 3) := by decide +kernel
theorem dX4_go_4 : decode cX4_go 4 = .ok (.iload_n 1, 1) := by decide +kernel
theorem dX4_go_5 : decode cX4_go 5 = .ok (.invokevirtual 47, 3) := by decide +kernel
theorem dX4_go_8 : decode cX4_go 8 = .ok (.ifCond .ne 6, 3) := by decide +kernel
theorem dX4_go_11 : decode cX4_go 11 = .ok (.bipush (-2), 2) := by decide +kernel
theorem dX4_go_13 : decode cX4_go 13 = .ok (.ireturn, 1) := by decide +kernel
theorem dX4_go_14 : decode cX4_go 14 = .ok (.aload_n 0, 1) := by decide +kernel
theorem dX4_go_15 : decode cX4_go 15 = .ok (.iconst 1, 1) := by decide +kernel
theorem dX4_go_16 : decode cX4_go 16 = .ok (.iload_n 1, 1) := by decide +kernel
theorem dX4_go_17 : decode cX4_go 17 = .ok (.iconst 0, 1) := by decide +kernel
theorem dX4_go_18 : decode cX4_go 18 = .ok (.iconst 0, 1) := by decide +kernel
theorem dX4_go_19 : decode cX4_go 19 = .ok (.iconst 0, 1) := by decide +kernel
theorem dX4_go_20 : decode cX4_go 20 = .ok (.invokevirtual 43, 3) := by decide +kernel
theorem dX4_go_23 : decode cX4_go 23 = .ok (.ireturn, 1) := by decide +kernel
theorem dX4_turn_0 : decode cX4_turn 0 = .ok (.aload_n 0, 1) := by decide +kernel
theorem dX4_turn_1 : decode cX4_turn 1 = .ok (.getfield 19, 3) := by decide +kernel
theorem dX4_turn_4 : decode cX4_turn 4 = .ok (.iload_n 1, 1) := by decide +kernel
theorem dX4_turn_5 : decode cX4_turn 5 = .ok (.invokevirtual 47, 3) := by decide +kernel
theorem dX4_turn_8 : decode cX4_turn 8 = .ok (.ifCond .eq 13, 3) := by decide +kernel
theorem dX4_turn_11 : decode cX4_turn 11 = .ok (.iload_n 2, 1) := by decide +kernel
theorem dX4_turn_12 : decode cX4_turn 12 = .ok (.iload_n 3, 1) := by decide +kernel
theorem dX4_turn_13 : decode cX4_turn 13 = .ok (.iload 4, 2) := by decide +kernel
theorem dX4_turn_15 : decode cX4_turn 15 = .ok (.invokestatic 36, 3) := by decide +kernel
theorem dX4_turn_18 : decode cX4_turn 18 = .ok (.ifCond .ne 6, 3) := by decide +kernel
theorem dX4_turn_21 : decode cX4_turn 21 = .ok (.bipush (-2), 2) := by decide +kernel
theorem dX4_turn_23 : decode cX4_turn 23 = .ok (.ireturn, 1) := by decide +kernel
theorem dX4_turn_24 : decode cX4_turn 24 = .ok (.aload_n 0, 1) := by decide +kernel
theorem dX4_turn_25 : decode cX4_turn 25 = .ok (.iconst 2, 1) := by decide +kernel
theorem dX4_turn_26 : decode cX4_turn 26 = .ok (.iload_n 1, 1) := by decide +kernel
theorem dX4_turn_27 : decode cX4_turn 27 = .ok (.iload_n 2, 1) := by decide +kernel
theorem dX4_turn_28 : decode cX4_turn 28 = .ok (.iload_n 3, 1) := by decide +kernel
theorem dX4_turn_29 : decode cX4_turn 29 = .ok (.iload 4, 2) := by decide +kernel
theorem dX4_turn_31 : decode cX4_turn 31 = .ok (.invokevirtual 43, 3) := by decide +kernel
theorem dX4_turn_34 : decode cX4_turn 34 = .ok (.ireturn, 1) := by decide +kernel
theorem dX4_size_0 : decode cX4_size 0 = .ok (.iload_n 1, 1) := by decide +kernel
theorem dX4_size_1 : decode cX4_size 1 = .ok (.invokestatic 51, 3) := by decide +kernel
theorem dX4_size_4 : decode cX4_size 4 = .ok (.ifCond .eq 14, 3) := by decide +kernel
theorem dX4_size_7 : decode cX4_size 7 = .ok (.iload_n 2, 1) := by decide +kernel
theorem dX4_size_8 : decode cX4_size 8 = .ok (.iconst 0, 1) := by decide +kernel
theorem dX4_size_9 : decode cX4_size 9 = .ok (.sipush 400, 3) := by decide +kernel
theorem dX4_size_12 : decode cX4_size 12 = .ok (.invokestatic 54, 3) := by decide +kernel
end
section
theorem dX4_size_15 : decode cX4_size 15 = .ok (.ifCond .ne 6, 3) := by decide +kernel
theorem dX4_size_18 : decode cX4_size 18 = .ok (.bipush (-2), 2) := by decide +kernel
theorem dX4_size_20 : decode cX4_size 20 = .ok (.ireturn, 1) := by decide +kernel
theorem dX4_size_21 : decode cX4_size 21 = .ok (.aload_n 0, 1) := by decide +kernel
theorem dX4_size_22 : decode cX4_size 22 = .ok (.iconst 3, 1) := by decide +kernel
theorem dX4_size_23 : decode cX4_size 23 = .ok (.iload_n 1, 1) := by decide +kernel
theorem dX4_size_24 : decode cX4_size 24 = .ok (.iload_n 2, 1) := by decide +kernel
theorem dX4_size_25 : decode cX4_size 25 = .ok (.iconst 0, 1) := by decide +kernel
theorem dX4_size_26 : decode cX4_size 26 = .ok (.iconst 0, 1) := by decide +kernel
theorem dX4_size_27 : decode cX4_size 27 = .ok (.invokevirtual 43, 3) := by decide +kernel
theorem dX4_size_30 : decode cX4_size 30 = .ok (.ireturn, 1) := by decide +kernel
theorem dX4_apart_0 : decode cX4_apart 0 = .ok (.aload_n 0, 1) := by decide +kernel
theorem dX4_apart_1 : decode cX4_apart 1 = .ok (.getfield 19, 3) := by decide +kernel
theorem dX4_apart_4 : decode cX4_apart 4 = .ok (.iload_n 1, 1) := by decide +kernel
theorem dX4_apart_5 : decode cX4_apart 5 = .ok (.invokevirtual 47, 3) := by decide +kernel
theorem dX4_apart_8 : decode cX4_apart 8 = .ok (.ifCond .eq 19, 3) := by decide +kernel
theorem dX4_apart_11 : decode cX4_apart 11 = .ok (.aload_n 0, 1) := by decide +kernel
theorem dX4_apart_12 : decode cX4_apart 12 = .ok (.getfield 19, 3) := by decide +kernel
theorem dX4_apart_15 : decode cX4_apart 15 = .ok (.iload_n 2, 1) := by decide +kernel
theorem dX4_apart_16 : decode cX4_apart 16 = .ok (.invokevirtual 47, 3) := by decide +kernel
theorem dX4_apart_19 : decode cX4_apart 19 = .ok (.ifCond .eq 8, 3) := by decide +kernel
theorem dX4_apart_22 : decode cX4_apart 22 = .ok (.iload_n 1, 1) := by decide +kernel
theorem dX4_apart_23 : decode cX4_apart 23 = .ok (.iload_n 2, 1) := by decide +kernel
theorem dX4_apart_24 : decode cX4_apart 24 = .ok (.if_icmp .ne 6, 3) := by decide +kernel
theorem dX4_apart_27 : decode cX4_apart 27 = .ok (.bipush (-2), 2) := by decide +kernel
theorem dX4_apart_29 : decode cX4_apart 29 = .ok (.ireturn, 1) := by decide +kernel
theorem dX4_apart_30 : decode cX4_apart 30 = .ok (.aload_n 0, 1) := by decide +kernel
theorem dX4_apart_31 : decode cX4_apart 31 = .ok (.getfield 19, 3) := by decide +kernel
theorem dX4_apart_34 : decode cX4_apart 34 = .ok (.iload_n 1, 1) := by decide +kernel
theorem dX4_apart_35 : decode cX4_apart 35 = .ok (.iload_n 2, 1) := by decide +kernel
theorem dX4_apart_36 : decode cX4_apart 36 = .ok (.invokevirtual 57, 3) := by decide +kernel
theorem dX4_apart_39 : decode cX4_apart 39 = .ok (.iload_n 3, 1) := by decide +kernel
theorem dX4_apart_40 : decode cX4_apart 40 = .ok (.if_icmp .ne 6, 3) := by decide +kernel
theorem dX4_apart_43 : decode cX4_apart 43 = .ok (.bipush (-3), 2) := by decide +kernel
theorem dX4_apart_45 : decode cX4_apart 45 = .ok (.ireturn, 1) := by decide +kernel
theorem dX4_apart_46 : decode cX4_apart 46 = .ok (.aload_n 0, 1) := by decide +kernel
theorem dX4_apart_47 : decode cX4_apart 47 = .ok (.iload_n 3, 1) := by decide +kernel
theorem dX4_apart_48 : decode cX4_apart 48 = .ok (.ifCond .eq 7, 3) := by decide +kernel
theorem dX4_apart_51 : decode cX4_apart 51 = .ok (.iconst 4, 1) := by decide +kernel
theorem dX4_apart_52 : decode cX4_apart 52 = .ok (.goto 4, 3) := by decide +kernel
theorem dX4_apart_55 : decode cX4_apart 55 = .ok (.iconst 5, 1) := by decide +kernel
theorem dX4_apart_56 : decode cX4_apart 56 = .ok (.iload_n 1, 1) := by decide +kernel
theorem dX4_apart_57 : decode cX4_apart 57 = .ok (.iload_n 2, 1) := by decide +kernel
theorem dX4_apart_58 : decode cX4_apart 58 = .ok (.iconst 0, 1) := by decide +kernel
theorem dX4_apart_59 : decode cX4_apart 59 = .ok (.iconst 0, 1) := by decide +kernel
theorem dX4_apart_60 : decode cX4_apart 60 = .ok (.invokevirtual 43, 3) := by decide +kernel
theorem dX4_apart_63 : decode cX4_apart 63 = .ok (.ireturn, 1) := by decide +kernel
theorem dX4_lock_0 : decode cX4_lock 0 = .ok (.aload_n 0, 1) := by decide +kernel
theorem dX4_lock_1 : decode cX4_lock 1 = .ok (.getfield 19, 3) := by decide +kernel
theorem dX4_lock_4 : decode cX4_lock 4 = .ok (.iload_n 1, 1) := by decide +kernel
theorem dX4_lock_5 : decode cX4_lock 5 = .ok (.invokevirtual 47, 3) := by decide +kernel
theorem dX4_lock_8 : decode cX4_lock 8 = .ok (.ifCond .eq 15, 3) := by decide +kernel
theorem dX4_lock_11 : decode cX4_lock 11 = .ok (.iload_n 2, 1) := by decide +kernel
theorem dX4_lock_12 : decode cX4_lock 12 = .ok (.iconst (-1), 1) := by decide +kernel
theorem dX4_lock_13 : decode cX4_lock 13 = .ok (.if_icmp .eq 13, 3) := by decide +kernel
theorem dX4_lock_16 : decode cX4_lock 16 = .ok (.iload_n 2, 1) := by decide +kernel
theorem dX4_lock_17 : decode cX4_lock 17 = .ok (.invokestatic 51, 3) := by decide +kernel
theorem dX4_lock_20 : decode cX4_lock 20 = .ok (.ifCond .ne 6, 3) := by decide +kernel
theorem dX4_lock_23 : decode cX4_lock 23 = .ok (.bipush (-2), 2) := by decide +kernel
theorem dX4_lock_25 : decode cX4_lock 25 = .ok (.ireturn, 1) := by decide +kernel
theorem dX4_lock_26 : decode cX4_lock 26 = .ok (.aload_n 0, 1) := by decide +kernel
theorem dX4_lock_27 : decode cX4_lock 27 = .ok (.bipush 6, 2) := by decide +kernel
theorem dX4_lock_29 : decode cX4_lock 29 = .ok (.iload_n 1, 1) := by decide +kernel
theorem dX4_lock_30 : decode cX4_lock 30 = .ok (.iload_n 2, 1) := by decide +kernel
theorem dX4_lock_31 : decode cX4_lock 31 = .ok (.iconst 0, 1) := by decide +kernel
theorem dX4_lock_32 : decode cX4_lock 32 = .ok (.iconst 0, 1) := by decide +kernel
theorem dX4_lock_33 : decode cX4_lock 33 = .ok (.invokevirtual 43, 3) := by decide +kernel
theorem dX4_lock_36 : decode cX4_lock 36 = .ok (.ireturn, 1) := by decide +kernel
theorem dX4_free_0 : decode cX4_free 0 = .ok (.aload_n 0, 1) := by decide +kernel
theorem dX4_free_1 : decode cX4_free 1 = .ok (.getfield 19, 3) := by decide +kernel
theorem dX4_free_4 : decode cX4_free 4 = .ok (.iload_n 1, 1) := by decide +kernel
theorem dX4_free_5 : decode cX4_free 5 = .ok (.invokevirtual 47, 3) := by decide +kernel
theorem dX4_free_8 : decode cX4_free 8 = .ok (.ifCond .ne 6, 3) := by decide +kernel
theorem dX4_free_11 : decode cX4_free 11 = .ok (.bipush (-2), 2) := by decide +kernel
theorem dX4_free_13 : decode cX4_free 13 = .ok (.ireturn, 1) := by decide +kernel
theorem dX4_free_14 : decode cX4_free 14 = .ok (.aload_n 0, 1) := by decide +kernel
theorem dX4_free_15 : decode cX4_free 15 = .ok (.getfield 19, 3) := by decide +kernel
theorem dX4_free_18 : decode cX4_free 18 = .ok (.getfield 61, 3) := by decide +kernel
theorem dX4_free_21 : decode cX4_free 21 = .ok (.iload_n 1, 1) := by decide +kernel
theorem dX4_free_22 : decode cX4_free 22 = .ok (.iaload, 1) := by decide +kernel
theorem dX4_free_23 : decode cX4_free 23 = .ok (.bipush (-2), 2) := by decide +kernel
theorem dX4_free_25 : decode cX4_free 25 = .ok (.if_icmp .ne 6, 3) := by decide +kernel
theorem dX4_free_28 : decode cX4_free 28 = .ok (.bipush (-3), 2) := by decide +kernel
theorem dX4_free_30 : decode cX4_free 30 = .ok (.ireturn, 1) := by decide +kernel
theorem dX4_free_31 : decode cX4_free 31 = .ok (.aload_n 0, 1) := by decide +kernel
theorem dX4_free_32 : decode cX4_free 32 = .ok (.bipush 7, 2) := by decide +kernel
theorem dX4_free_34 : decode cX4_free 34 = .ok (.iload_n 1, 1) := by decide +kernel
theorem dX4_free_35 : decode cX4_free 35 = .ok (.iconst 0, 1) := by decide +kernel
theorem dX4_free_36 : decode cX4_free 36 = .ok (.iconst 0, 1) := by decide +kernel
theorem dX4_free_37 : decode cX4_free 37 = .ok (.iconst 0, 1) := by decide +kernel
theorem dX4_free_38 : decode cX4_free 38 = .ok (.invokevirtual 43, 3) := by decide +kernel
theorem dX4_free_41 : decode cX4_free 41 = .ok (.ireturn, 1) := by decide +kernel
theorem dX4_solve_0 : decode cX4_solve 0 = .ok (.iload_n 2, 1) := by decide +kernel
theorem dX4_solve_1 : decode cX4_solve 1 = .ok (.iconst 1, 1) := by decide +kernel
theorem dX4_solve_2 : decode cX4_solve 2 = .ok (.bipush 8, 2) := by decide +kernel
theorem dX4_solve_4 : decode cX4_solve 4 = .ok (.invokestatic 54, 3) := by decide +kernel
theorem dX4_solve_7 : decode cX4_solve 7 = .ok (.ifCond .ne 6, 3) := by decide +kernel
theorem dX4_solve_10 : decode cX4_solve 10 = .ok (.bipush (-2), 2) := by decide +kernel
theorem dX4_solve_12 : decode cX4_solve 12 = .ok (.ireturn, 1) := by decide +kernel
theorem dX4_solve_13 : decode cX4_solve 13 = .ok (.aload_n 0, 1) := by decide +kernel
theorem dX4_solve_14 : decode cX4_solve 14 = .ok (.getfield 32, 3) := by decide +kernel
theorem dX4_solve_17 : decode cX4_solve 17 = .ok (.iconst 3, 1) := by decide +kernel
theorem dX4_solve_18 : decode cX4_solve 18 = .ok (.if_icmp .lt 6, 3) := by decide +kernel
theorem dX4_solve_21 : decode cX4_solve 21 = .ok (.bipush (-4), 2) := by decide +kernel
theorem dX4_solve_23 : decode cX4_solve 23 = .ok (.ireturn, 1) := by decide +kernel
theorem dX4_solve_24 : decode cX4_solve 24 = .ok (.aload_n 0, 1) := by decide +kernel
theorem dX4_solve_25 : decode cX4_solve 25 = .ok (.getfield 28, 3) := by decide +kernel
theorem dX4_solve_28 : decode cX4_solve 28 = .ok (.aload_n 0, 1) := by decide +kernel
theorem dX4_solve_29 : decode cX4_solve 29 = .ok (.getfield 32, 3) := by decide +kernel
theorem dX4_solve_32 : decode cX4_solve 32 = .ok (.new 26, 3) := by decide +kernel
theorem dX4_solve_35 : decode cX4_solve 35 = .ok (.dup, 1) := by decide +kernel
theorem dX4_solve_36 : decode cX4_solve 36 = .ok (.iload_n 1, 1) := by decide +kernel
theorem dX4_solve_37 : decode cX4_solve 37 = .ok (.iload_n 2, 1) := by decide +kernel
theorem dX4_solve_38 : decode cX4_solve 38 = .ok (.invokespecial 65, 3) := by decide +kernel
theorem dX4_solve_41 : decode cX4_solve 41 = .ok (.aastore, 1) := by decide +kernel
theorem dX4_solve_42 : decode cX4_solve 42 = .ok (.aload_n 0, 1) := by decide +kernel
theorem dX4_solve_43 : decode cX4_solve 43 = .ok (.dup, 1) := by decide +kernel
theorem dX4_solve_44 : decode cX4_solve 44 = .ok (.getfield 32, 3) := by decide +kernel
theorem dX4_solve_47 : decode cX4_solve 47 = .ok (.iconst 1, 1) := by decide +kernel
theorem dX4_solve_48 : decode cX4_solve 48 = .ok (.iadd, 1) := by decide +kernel
theorem dX4_solve_49 : decode cX4_solve 49 = .ok (.putfield 32, 3) := by decide +kernel
theorem dX4_solve_52 : decode cX4_solve 52 = .ok (.aload_n 0, 1) := by decide +kernel
theorem dX4_solve_53 : decode cX4_solve 53 = .ok (.getfield 32, 3) := by decide +kernel
theorem dX4_solve_56 : decode cX4_solve 56 = .ok (.iconst 1, 1) := by decide +kernel
theorem dX4_solve_57 : decode cX4_solve 57 = .ok (.isub, 1) := by decide +kernel
theorem dX4_solve_58 : decode cX4_solve 58 = .ok (.ireturn, 1) := by decide +kernel
theorem dX4_take_0 : decode cX4_take 0 = .ok (.aload_n 0, 1) := by decide +kernel
theorem dX4_take_1 : decode cX4_take 1 = .ok (.iload_n 1, 1) := by decide +kernel
theorem dX4_take_2 : decode cX4_take 2 = .ok (.invokevirtual 68, 3) := by decide +kernel
theorem dX4_take_5 : decode cX4_take 5 = .ok (.astore_n 3, 1) := by decide +kernel
theorem dX4_take_6 : decode cX4_take 6 = .ok (.aload_n 3, 1) := by decide +kernel
theorem dX4_take_7 : decode cX4_take 7 = .ok (.ifnull 18, 3) := by decide +kernel
theorem dX4_take_10 : decode cX4_take 10 = .ok (.iload_n 2, 1) := by decide +kernel
theorem dX4_take_11 : decode cX4_take 11 = .ok (.iconst 0, 1) := by decide +kernel
theorem dX4_take_12 : decode cX4_take 12 = .ok (.aload_n 0, 1) := by decide +kernel
theorem dX4_take_13 : decode cX4_take 13 = .ok (.getfield 10, 3) := by decide +kernel
theorem dX4_take_16 : decode cX4_take 16 = .ok (.getfield 72, 3) := by decide +kernel
theorem dX4_take_19 : decode cX4_take 19 = .ok (.invokestatic 54, 3) := by decide +kernel
theorem dX4_take_22 : decode cX4_take 22 = .ok (.ifCond .ne 6, 3) := by decide +kernel
theorem dX4_take_25 : decode cX4_take 25 = .ok (.bipush (-2), 2) := by decide +kernel
theorem dX4_take_27 : decode cX4_take 27 = .ok (.ireturn, 1) := by decide +kernel
theorem dX4_take_28 : decode cX4_take 28 = .ok (.aload_n 3, 1) := by decide +kernel
theorem dX4_take_29 : decode cX4_take 29 = .ok (.aload_n 0, 1) := by decide +kernel
theorem dX4_take_30 : decode cX4_take 30 = .ok (.getfield 10, 3) := by decide +kernel
theorem dX4_take_33 : decode cX4_take 33 = .ok (.iload_n 2, 1) := by decide +kernel
theorem dX4_take_34 : decode cX4_take 34 = .ok (.invokevirtual 75, 3) := by decide +kernel
theorem dX4_take_37 : decode cX4_take 37 = .ok (.ireturn, 1) := by decide +kernel
theorem dX4_step_0 : decode cX4_step 0 = .ok (.aload_n 0, 1) := by decide +kernel
theorem dX4_step_1 : decode cX4_step 1 = .ok (.iload_n 1, 1) := by decide +kernel
theorem dX4_step_2 : decode cX4_step 2 = .ok (.invokevirtual 68, 3) := by decide +kernel
theorem dX4_step_5 : decode cX4_step 5 = .ok (.astore_n 3, 1) := by decide +kernel
theorem dX4_step_6 : decode cX4_step 6 = .ok (.aload_n 3, 1) := by decide +kernel
theorem dX4_step_7 : decode cX4_step 7 = .ok (.ifnull 14, 3) := by decide +kernel
theorem dX4_step_10 : decode cX4_step 10 = .ok (.iload_n 2, 1) := by decide +kernel
theorem dX4_step_11 : decode cX4_step 11 = .ok (.iconst 0, 1) := by decide +kernel
theorem dX4_step_12 : decode cX4_step 12 = .ok (.sipush 200, 3) := by decide +kernel
theorem dX4_step_15 : decode cX4_step 15 = .ok (.invokestatic 54, 3) := by decide +kernel
theorem dX4_step_18 : decode cX4_step 18 = .ok (.ifCond .ne 6, 3) := by decide +kernel
theorem dX4_step_21 : decode cX4_step 21 = .ok (.bipush (-2), 2) := by decide +kernel
theorem dX4_step_23 : decode cX4_step 23 = .ok (.ireturn, 1) := by decide +kernel
theorem dX4_step_24 : decode cX4_step 24 = .ok (.aload_n 3, 1) := by decide +kernel
theorem dX4_step_25 : decode cX4_step 25 = .ok (.aload_n 0, 1) := by decide +kernel
theorem dX4_step_26 : decode cX4_step 26 = .ok (.getfield 10, 3) := by decide +kernel
theorem dX4_step_29 : decode cX4_step 29 = .ok (.aload_n 0, 1) := by decide +kernel
theorem dX4_step_30 : decode cX4_step 30 = .ok (.getfield 10, 3) := by decide +kernel
theorem dX4_step_33 : decode cX4_step 33 = .ok (.getfield 72, 3) := by decide +kernel
theorem dX4_step_36 : decode cX4_step 36 = .ok (.invokevirtual 75, 3) := by decide +kernel
theorem dX4_step_39 : decode cX4_step 39 = .ok (.pop, 1) := by decide +kernel
theorem dX4_step_40 : decode cX4_step 40 = .ok (.aload_n 3, 1) := by decide +kernel
theorem dX4_step_41 : decode cX4_step 41 = .ok (.iload_n 2, 1) := by decide +kernel
theorem dX4_step_42 : decode cX4_step 42 = .ok (.invokevirtual 79, 3) := by decide +kernel
theorem dX4_step_45 : decode cX4_step 45 = .ok (.ireturn, 1) := by decide +kernel
theorem dX4_mark_0 : decode cX4_mark 0 = .ok (.aload_n 0, 1) := by decide +kernel
theorem dX4_mark_1 : decode cX4_mark 1 = .ok (.iload_n 1, 1) := by decide +kernel
theorem dX4_mark_2 : decode cX4_mark 2 = .ok (.invokevirtual 68, 3) := by decide +kernel
theorem dX4_mark_5 : decode cX4_mark 5 = .ok (.astore_n 3, 1) := by decide +kernel
theorem dX4_mark_6 : decode cX4_mark 6 = .ok (.aload_n 3, 1) := by decide +kernel
theorem dX4_mark_7 : decode cX4_mark 7 = .ok (.ifnull 10, 3) := by decide +kernel
theorem dX4_mark_10 : decode cX4_mark 10 = .ok (.iload_n 2, 1) := by decide +kernel
theorem dX4_mark_11 : decode cX4_mark 11 = .ok (.invokestatic 83, 3) := by decide +kernel
theorem dX4_mark_14 : decode cX4_mark 14 = .ok (.ifCond .ne 6, 3) := by decide +kernel
theorem dX4_mark_17 : decode cX4_mark 17 = .ok (.bipush (-2), 2) := by decide +kernel
theorem dX4_mark_19 : decode cX4_mark 19 = .ok (.ireturn, 1) := by decide +kernel
theorem dX4_mark_20 : decode cX4_mark 20 = .ok (.aload_n 3, 1) := by decide +kernel
theorem dX4_mark_21 : decode cX4_mark 21 = .ok (.getfield 86, 3) := by decide +kernel
theorem dX4_mark_24 : decode cX4_mark 24 = .ok (.iload_n 2, 1) := by decide +kernel
theorem dX4_mark_25 : decode cX4_mark 25 = .ok (.aaload, 1) := by decide +kernel
theorem dX4_mark_26 : decode cX4_mark 26 = .ok (.ifnonnull 21, 3) := by decide +kernel
theorem dX4_mark_29 : decode cX4_mark 29 = .ok (.aload_n 3, 1) := by decide +kernel
theorem dX4_mark_30 : decode cX4_mark 30 = .ok (.getfield 86, 3) := by decide +kernel
theorem dX4_mark_33 : decode cX4_mark 33 = .ok (.iload_n 2, 1) := by decide +kernel
theorem dX4_mark_34 : decode cX4_mark 34 = .ok (.new 90, 3) := by decide +kernel
theorem dX4_mark_37 : decode cX4_mark 37 = .ok (.dup, 1) := by decide +kernel
theorem dX4_mark_38 : decode cX4_mark 38 = .ok (.aload_n 3, 1) := by decide +kernel
theorem dX4_mark_39 : decode cX4_mark 39 = .ok (.getfield 92, 3) := by decide +kernel
theorem dX4_mark_42 : decode cX4_mark 42 = .ok (.arraylength, 1) := by decide +kernel
theorem dX4_mark_43 : decode cX4_mark 43 = .ok (.invokespecial 96, 3) := by decide +kernel
theorem dX4_mark_46 : decode cX4_mark 46 = .ok (.aastore, 1) := by decide +kernel
theorem dX4_mark_47 : decode cX4_mark 47 = .ok (.aload_n 3, 1) := by decide +kernel
theorem dX4_mark_48 : decode cX4_mark 48 = .ok (.aload_n 3, 1) := by decide +kernel
theorem dX4_mark_49 : decode cX4_mark 49 = .ok (.getfield 86, 3) := by decide +kernel
theorem dX4_mark_52 : decode cX4_mark 52 = .ok (.iload_n 2, 1) := by decide +kernel
theorem dX4_mark_53 : decode cX4_mark 53 = .ok (.aaload, 1) := by decide +kernel
theorem dX4_mark_54 : decode cX4_mark 54 = .ok (.invokevirtual 99, 3) := by decide +kernel
theorem dX4_mark_57 : decode cX4_mark 57 = .ok (.aload_n 3, 1) := by decide +kernel
theorem dX4_mark_58 : decode cX4_mark 58 = .ok (.getfield 103, 3) := by decide +kernel
theorem dX4_mark_61 : decode cX4_mark 61 = .ok (.getfield 106, 3) := by decide +kernel
theorem dX4_mark_64 : decode cX4_mark 64 = .ok (.ireturn, 1) := by decide +kernel
theorem dX4_back_0 : decode cX4_back 0 = .ok (.aload_n 0, 1) := by decide +kernel
theorem dX4_back_1 : decode cX4_back 1 = .ok (.iload_n 1, 1) := by decide +kernel
theorem dX4_back_2 : decode cX4_back 2 = .ok (.invokevirtual 68, 3) := by decide +kernel
theorem dX4_back_5 : decode cX4_back 5 = .ok (.astore_n 3, 1) := by decide +kernel
theorem dX4_back_6 : decode cX4_back 6 = .ok (.aload_n 3, 1) := by decide +kernel
theorem dX4_back_7 : decode cX4_back 7 = .ok (.ifnull 10, 3) := by decide +kernel
theorem dX4_back_10 : decode cX4_back 10 = .ok (.iload_n 2, 1) := by decide +kernel
theorem dX4_back_11 : decode cX4_back 11 = .ok (.invokestatic 83, 3) := by decide +kernel
theorem dX4_back_14 : decode cX4_back 14 = .ok (.ifCond .ne 6, 3) := by decide +kernel
theorem dX4_back_17 : decode cX4_back 17 = .ok (.bipush (-2), 2) := by decide +kernel
theorem dX4_back_19 : decode cX4_back 19 = .ok (.ireturn, 1) := by decide +kernel
theorem dX4_back_20 : decode cX4_back 20 = .ok (.aload_n 3, 1) := by decide +kernel
theorem dX4_back_21 : decode cX4_back 21 = .ok (.getfield 86, 3) := by decide +kernel
theorem dX4_back_24 : decode cX4_back 24 = .ok (.iload_n 2, 1) := by decide +kernel
theorem dX4_back_25 : decode cX4_back 25 = .ok (.aaload, 1) := by decide +kernel
theorem dX4_back_26 : decode cX4_back 26 = .ok (.astore 4, 2) := by decide +kernel
theorem dX4_back_28 : decode cX4_back 28 = .ok (.aload 4, 2) := by decide +kernel
theorem dX4_back_30 : decode cX4_back 30 = .ok (.ifnonnull 6, 3) := by decide +kernel
theorem dX4_back_33 : decode cX4_back 33 = .ok (.bipush (-3), 2) := by decide +kernel
theorem dX4_back_35 : decode cX4_back 35 = .ok (.ireturn, 1) := by decide +kernel
theorem dX4_back_36 : decode cX4_back 36 = .ok (.aload_n 3, 1) := by decide +kernel
theorem dX4_back_37 : decode cX4_back 37 = .ok (.aload 4, 2) := by decide +kernel
theorem dX4_back_39 : decode cX4_back 39 = .ok (.aload_n 0, 1) := by decide +kernel
theorem dX4_back_40 : decode cX4_back 40 = .ok (.getfield 10, 3) := by decide +kernel
theorem dX4_back_43 : decode cX4_back 43 = .ok (.invokevirtual 109, 3) := by decide +kernel
theorem dX4_back_46 : decode cX4_back 46 = .ok (.aload 4, 2) := by decide +kernel
theorem dX4_back_48 : decode cX4_back 48 = .ok (.getfield 113, 3) := by decide +kernel
theorem dX4_back_51 : decode cX4_back 51 = .ok (.ireturn, 1) := by decide +kernel
theorem dX4_room_0 : decode cX4_room 0 = .ok (.aload_n 0, 1) := by decide +kernel
theorem dX4_room_1 : decode cX4_room 1 = .ok (.iload_n 1, 1) := by decide +kernel
theorem dX4_room_2 : decode cX4_room 2 = .ok (.invokevirtual 68, 3) := by decide +kernel
theorem dX4_room_5 : decode cX4_room 5 = .ok (.astore 4, 2) := by decide +kernel
theorem dX4_room_7 : decode cX4_room 7 = .ok (.aload 4, 2) := by decide +kernel
theorem dX4_room_9 : decode cX4_room 9 = .ok (.ifnull 13, 3) := by decide +kernel
theorem dX4_room_12 : decode cX4_room 12 = .ok (.iload_n 3, 1) := by decide +kernel
theorem dX4_room_13 : decode cX4_room 13 = .ok (.iconst 0, 1) := by decide +kernel
theorem dX4_room_14 : decode cX4_room 14 = .ok (.bipush 15, 2) := by decide +kernel
theorem dX4_room_16 : decode cX4_room 16 = .ok (.invokestatic 54, 3) := by decide +kernel
theorem dX4_room_19 : decode cX4_room 19 = .ok (.ifCond .ne 6, 3) := by decide +kernel
theorem dX4_room_22 : decode cX4_room 22 = .ok (.bipush (-2), 2) := by decide +kernel
theorem dX4_room_24 : decode cX4_room 24 = .ok (.ireturn, 1) := by decide +kernel
theorem dX4_room_25 : decode cX4_room 25 = .ok (.aload 4, 2) := by decide +kernel
theorem dX4_room_27 : decode cX4_room 27 = .ok (.getfield 103, 3) := by decide +kernel
theorem dX4_room_30 : decode cX4_room 30 = .ok (.iload_n 3, 1) := by decide +kernel
theorem dX4_room_31 : decode cX4_room 31 = .ok (.invokevirtual 47, 3) := by decide +kernel
theorem dX4_room_34 : decode cX4_room 34 = .ok (.ifCond .ne 6, 3) := by decide +kernel
theorem dX4_room_37 : decode cX4_room 37 = .ok (.bipush (-3), 2) := by decide +kernel
theorem dX4_room_39 : decode cX4_room 39 = .ok (.ireturn, 1) := by decide +kernel
theorem dX4_room_40 : decode cX4_room 40 = .ok (.aload 4, 2) := by decide +kernel
theorem dX4_room_42 : decode cX4_room 42 = .ok (.iload_n 2, 1) := by decide +kernel
theorem dX4_room_43 : decode cX4_room 43 = .ok (.invokevirtual 114, 3) := by decide +kernel
theorem dX4_room_46 : decode cX4_room 46 = .ok (.iload_n 3, 1) := by decide +kernel
theorem dX4_room_47 : decode cX4_room 47 = .ok (.iaload, 1) := by decide +kernel
theorem dX4_room_48 : decode cX4_room 48 = .ok (.ireturn, 1) := by decide +kernel
theorem dX4_score_0 : decode cX4_score 0 = .ok (.aload_n 0, 1) := by decide +kernel
theorem dX4_score_1 : decode cX4_score 1 = .ok (.iload_n 1, 1) := by decide +kernel
theorem dX4_score_2 : decode cX4_score 2 = .ok (.invokevirtual 68, 3) := by decide +kernel
theorem dX4_score_5 : decode cX4_score 5 = .ok (.astore 4, 2) := by decide +kernel
theorem dX4_score_7 : decode cX4_score 7 = .ok (.aload 4, 2) := by decide +kernel
theorem dX4_score_9 : decode cX4_score 9 = .ok (.ifnonnull 6, 3) := by decide +kernel
theorem dX4_score_12 : decode cX4_score 12 = .ok (.bipush (-2), 2) := by decide +kernel
theorem dX4_score_14 : decode cX4_score 14 = .ok (.ireturn, 1) := by decide +kernel
theorem dX4_score_15 : decode cX4_score 15 = .ok (.iload_n 2, 1) := by decide +kernel
theorem dX4_score_16 : decode cX4_score 16 = .ok (.ifCond .eq 11, 3) := by decide +kernel
theorem dX4_score_19 : decode cX4_score 19 = .ok (.aload 4, 2) := by decide +kernel
theorem dX4_score_21 : decode cX4_score 21 = .ok (.getfield 118, 3) := by decide +kernel
theorem dX4_score_24 : decode cX4_score 24 = .ok (.goto 8, 3) := by decide +kernel
theorem dX4_score_27 : decode cX4_score 27 = .ok (.aload 4, 2) := by decide +kernel
theorem dX4_score_29 : decode cX4_score 29 = .ok (.getfield 122, 3) := by decide +kernel
theorem dX4_score_32 : decode cX4_score 32 = .ok (.iload_n 3, 1) := by decide +kernel
theorem dX4_score_33 : decode cX4_score 33 = .ok (.invokestatic 125, 3) := by decide +kernel
theorem dX4_score_36 : decode cX4_score 36 = .ok (.ireturn, 1) := by decide +kernel
theorem dX4_scoreBy_0 : decode cX4_scoreBy 0 = .ok (.aload_n 0, 1) := by decide +kernel
theorem dX4_scoreBy_1 : decode cX4_scoreBy 1 = .ok (.iload_n 1, 1) := by decide +kernel
theorem dX4_scoreBy_2 : decode cX4_scoreBy 2 = .ok (.invokevirtual 68, 3) := by decide +kernel
theorem dX4_scoreBy_5 : decode cX4_scoreBy 5 = .ok (.astore 5, 2) := by decide +kernel
theorem dX4_scoreBy_7 : decode cX4_scoreBy 7 = .ok (.aload 5, 2) := by decide +kernel
theorem dX4_scoreBy_9 : decode cX4_scoreBy 9 = .ok (.ifnull 19, 3) := by decide +kernel
theorem dX4_scoreBy_12 : decode cX4_scoreBy 12 = .ok (.iload 4, 2) := by decide +kernel
theorem dX4_scoreBy_14 : decode cX4_scoreBy 14 = .ok (.iconst 0, 1) := by decide +kernel
theorem dX4_scoreBy_15 : decode cX4_scoreBy 15 = .ok (.aload_n 0, 1) := by decide +kernel
theorem dX4_scoreBy_16 : decode cX4_scoreBy 16 = .ok (.getfield 10, 3) := by decide +kernel
theorem dX4_scoreBy_19 : decode cX4_scoreBy 19 = .ok (.getfield 72, 3) := by decide +kernel
theorem dX4_scoreBy_22 : decode cX4_scoreBy 22 = .ok (.invokestatic 54, 3) := by decide +kernel
theorem dX4_scoreBy_25 : decode cX4_scoreBy 25 = .ok (.ifCond .ne 6, 3) := by decide +kernel
theorem dX4_scoreBy_28 : decode cX4_scoreBy 28 = .ok (.bipush (-2), 2) := by decide +kernel
theorem dX4_scoreBy_30 : decode cX4_scoreBy 30 = .ok (.ireturn, 1) := by decide +kernel
theorem dX4_scoreBy_31 : decode cX4_scoreBy 31 = .ok (.aload_n 0, 1) := by decide +kernel
theorem dX4_scoreBy_32 : decode cX4_scoreBy 32 = .ok (.getfield 23, 3) := by decide +kernel
theorem dX4_scoreBy_35 : decode cX4_scoreBy 35 = .ok (.aload_n 0, 1) := by decide +kernel
theorem dX4_scoreBy_36 : decode cX4_scoreBy 36 = .ok (.getfield 10, 3) := by decide +kernel
theorem dX4_scoreBy_39 : decode cX4_scoreBy 39 = .ok (.iload 4, 2) := by decide +kernel
theorem dX4_scoreBy_41 : decode cX4_scoreBy 41 = .ok (.invokevirtual 129, 3) := by decide +kernel
theorem dX4_scoreBy_44 : decode cX4_scoreBy 44 = .ok (.aload_n 0, 1) := by decide +kernel
theorem dX4_scoreBy_45 : decode cX4_scoreBy 45 = .ok (.getfield 23, 3) := by decide +kernel
theorem dX4_scoreBy_48 : decode cX4_scoreBy 48 = .ok (.aload 5, 2) := by decide +kernel
theorem dX4_scoreBy_50 : decode cX4_scoreBy 50 = .ok (.iload_n 2, 1) := by decide +kernel
theorem dX4_scoreBy_51 : decode cX4_scoreBy 51 = .ok (.invokevirtual 114, 3) := by decide +kernel
theorem dX4_scoreBy_54 : decode cX4_scoreBy 54 = .ok (.invokevirtual 133, 3) := by decide +kernel
theorem dX4_scoreBy_57 : decode cX4_scoreBy 57 = .ok (.iload_n 3, 1) := by decide +kernel
theorem dX4_scoreBy_58 : decode cX4_scoreBy 58 = .ok (.invokestatic 125, 3) := by decide +kernel
theorem dX4_scoreBy_61 : decode cX4_scoreBy 61 = .ok (.ireturn, 1) := by decide +kernel
theorem dX4_same_0 : decode cX4_same 0 = .ok (.aload_n 0, 1) := by decide +kernel
theorem dX4_same_1 : decode cX4_same 1 = .ok (.iload_n 1, 1) := by decide +kernel
theorem dX4_same_2 : decode cX4_same 2 = .ok (.invokevirtual 68, 3) := by decide +kernel
theorem dX4_same_5 : decode cX4_same 5 = .ok (.astore_n 3, 1) := by decide +kernel
theorem dX4_same_6 : decode cX4_same 6 = .ok (.aload_n 0, 1) := by decide +kernel
theorem dX4_same_7 : decode cX4_same 7 = .ok (.iload_n 2, 1) := by decide +kernel
theorem dX4_same_8 : decode cX4_same 8 = .ok (.invokevirtual 68, 3) := by decide +kernel
theorem dX4_same_11 : decode cX4_same 11 = .ok (.astore 4, 2) := by decide +kernel
theorem dX4_same_13 : decode cX4_same 13 = .ok (.aload_n 3, 1) := by decide +kernel
theorem dX4_same_14 : decode cX4_same 14 = .ok (.ifnull 8, 3) := by decide +kernel
theorem dX4_same_17 : decode cX4_same 17 = .ok (.aload 4, 2) := by decide +kernel
theorem dX4_same_19 : decode cX4_same 19 = .ok (.ifnonnull 6, 3) := by decide +kernel
theorem dX4_same_22 : decode cX4_same 22 = .ok (.bipush (-2), 2) := by decide +kernel
theorem dX4_same_24 : decode cX4_same 24 = .ok (.ireturn, 1) := by decide +kernel
theorem dX4_same_25 : decode cX4_same 25 = .ok (.aload_n 3, 1) := by decide +kernel
theorem dX4_same_26 : decode cX4_same 26 = .ok (.aload 4, 2) := by decide +kernel
theorem dX4_same_28 : decode cX4_same 28 = .ok (.invokevirtual 137, 3) := by decide +kernel
theorem dX4_same_31 : decode cX4_same 31 = .ok (.ifCond .eq 7, 3) := by decide +kernel
theorem dX4_same_34 : decode cX4_same 34 = .ok (.iconst 1, 1) := by decide +kernel
theorem dX4_same_35 : decode cX4_same 35 = .ok (.goto 4, 3) := by decide +kernel
theorem dX4_same_38 : decode cX4_same 38 = .ok (.iconst 0, 1) := by decide +kernel
theorem dX4_same_39 : decode cX4_same 39 = .ok (.ireturn, 1) := by decide +kernel
theorem dX4_told_0 : decode cX4_told 0 = .ok (.aload_n 0, 1) := by decide +kernel
theorem dX4_told_1 : decode cX4_told 1 = .ok (.iload_n 1, 1) := by decide +kernel
theorem dX4_told_2 : decode cX4_told 2 = .ok (.invokevirtual 68, 3) := by decide +kernel
theorem dX4_told_5 : decode cX4_told 5 = .ok (.astore_n 3, 1) := by decide +kernel
theorem dX4_told_6 : decode cX4_told 6 = .ok (.aload_n 3, 1) := by decide +kernel
theorem dX4_told_7 : decode cX4_told 7 = .ok (.ifnonnull 6, 3) := by decide +kernel
theorem dX4_told_10 : decode cX4_told 10 = .ok (.ldc 143, 2) := by decide +kernel
theorem dX4_told_12 : decode cX4_told 12 = .ok (.ireturn, 1) := by decide +kernel
theorem dX4_told_13 : decode cX4_told 13 = .ok (.iload_n 2, 1) := by decide +kernel
theorem dX4_told_14 : decode cX4_told 14 = .ok (.tableswitch 98 0 6 #[42, 47, 55, 60, 65, 70, 84], 42) := by decide +kernel
theorem dX4_told_56 : decode cX4_told 56 = .ok (.aload_n 3, 1) := by decide +kernel
theorem dX4_told_57 : decode cX4_told 57 = .ok (.getfield 144, 3) := by decide +kernel
theorem dX4_told_60 : decode cX4_told 60 = .ok (.ireturn, 1) := by decide +kernel
theorem dX4_told_61 : decode cX4_told 61 = .ok (.aload_n 3, 1) := by decide +kernel
theorem dX4_told_62 : decode cX4_told 62 = .ok (.getfield 103, 3) := by decide +kernel
theorem dX4_told_65 : decode cX4_told 65 = .ok (.getfield 106, 3) := by decide +kernel
theorem dX4_told_68 : decode cX4_told 68 = .ok (.ireturn, 1) := by decide +kernel
theorem dX4_told_69 : decode cX4_told 69 = .ok (.aload_n 3, 1) := by decide +kernel
theorem dX4_told_70 : decode cX4_told 70 = .ok (.getfield 147, 3) := by decide +kernel
theorem dX4_told_73 : decode cX4_told 73 = .ok (.ireturn, 1) := by decide +kernel
theorem dX4_told_74 : decode cX4_told 74 = .ok (.aload_n 3, 1) := by decide +kernel
theorem dX4_told_75 : decode cX4_told 75 = .ok (.getfield 150, 3) := by decide +kernel
theorem dX4_told_78 : decode cX4_told 78 = .ok (.ireturn, 1) := by decide +kernel
theorem dX4_told_79 : decode cX4_told 79 = .ok (.aload_n 3, 1) := by decide +kernel
theorem dX4_told_80 : decode cX4_told 80 = .ok (.getfield 153, 3) := by decide +kernel
theorem dX4_told_83 : decode cX4_told 83 = .ok (.ireturn, 1) := by decide +kernel
theorem dX4_told_84 : decode cX4_told 84 = .ok (.aload_n 3, 1) := by decide +kernel
theorem dX4_told_85 : decode cX4_told 85 = .ok (.getfield 92, 3) := by decide +kernel
theorem dX4_told_88 : decode cX4_told 88 = .ok (.aload_n 3, 1) := by decide +kernel
theorem dX4_told_89 : decode cX4_told 89 = .ok (.invokevirtual 156, 3) := by decide +kernel
theorem dX4_told_92 : decode cX4_told 92 = .ok (.laload, 1) := by decide +kernel
theorem dX4_told_93 : decode cX4_told 93 = .ok (.iconst 1, 1) := by decide +kernel
theorem dX4_told_94 : decode cX4_told 94 = .ok (.invokestatic 125, 3) := by decide +kernel
theorem dX4_told_97 : decode cX4_told 97 = .ok (.ireturn, 1) := by decide +kernel
theorem dX4_told_98 : decode cX4_told 98 = .ok (.aload_n 3, 1) := by decide +kernel
theorem dX4_told_99 : decode cX4_told 99 = .ok (.getfield 92, 3) := by decide +kernel
theorem dX4_told_102 : decode cX4_told 102 = .ok (.aload_n 3, 1) := by decide +kernel
theorem dX4_told_103 : decode cX4_told 103 = .ok (.invokevirtual 156, 3) := by decide +kernel
theorem dX4_told_106 : decode cX4_told 106 = .ok (.laload, 1) := by decide +kernel
theorem dX4_told_107 : decode cX4_told 107 = .ok (.iconst 0, 1) := by decide +kernel
theorem dX4_told_108 : decode cX4_told 108 = .ok (.invokestatic 125, 3) := by decide +kernel
theorem dX4_told_111 : decode cX4_told 111 = .ok (.ireturn, 1) := by decide +kernel
theorem dX4_told_112 : decode cX4_told 112 = .ok (.ldc 143, 2) := by decide +kernel
theorem dX4_told_114 : decode cX4_told 114 = .ok (.ireturn, 1) := by decide +kernel
theorem dX4_fact_0 : decode cX4_fact 0 = .ok (.iload_n 1, 1) := by decide +kernel
theorem dX4_fact_1 : decode cX4_fact 1 = .ok (.bipush 100, 2) := by decide +kernel
theorem dX4_fact_3 : decode cX4_fact 3 = .ok (.if_icmp .ge 9, 3) := by decide +kernel
theorem dX4_fact_6 : decode cX4_fact 6 = .ok (.aload_n 0, 1) := by decide +kernel
theorem dX4_fact_7 : decode cX4_fact 7 = .ok (.iload_n 1, 1) := by decide +kernel
theorem dX4_fact_8 : decode cX4_fact 8 = .ok (.invokevirtual 160, 3) := by decide +kernel
theorem dX4_fact_11 : decode cX4_fact 11 = .ok (.ireturn, 1) := by decide +kernel
theorem dX4_fact_12 : decode cX4_fact 12 = .ok (.iload_n 1, 1) := by decide +kernel
theorem dX4_fact_13 : decode cX4_fact 13 = .ok (.bipush 100, 2) := by decide +kernel
theorem dX4_fact_15 : decode cX4_fact 15 = .ok (.idiv, 1) := by decide +kernel
theorem dX4_fact_16 : decode cX4_fact 16 = .ok (.istore_n 2, 1) := by decide +kernel
theorem dX4_fact_17 : decode cX4_fact 17 = .ok (.iload_n 1, 1) := by decide +kernel
theorem dX4_fact_18 : decode cX4_fact 18 = .ok (.bipush 100, 2) := by decide +kernel
theorem dX4_fact_20 : decode cX4_fact 20 = .ok (.irem, 1) := by decide +kernel
theorem dX4_fact_21 : decode cX4_fact 21 = .ok (.istore_n 3, 1) := by decide +kernel
theorem dX4_fact_22 : decode cX4_fact 22 = .ok (.iload_n 2, 1) := by decide +kernel
theorem dX4_fact_23 : decode cX4_fact 23 = .ok (.iconst 1, 1) := by decide +kernel
theorem dX4_fact_24 : decode cX4_fact 24 = .ok (.if_icmp .ne 42, 3) := by decide +kernel
theorem dX4_fact_27 : decode cX4_fact 27 = .ok (.iload_n 3, 1) := by decide +kernel
theorem dX4_fact_28 : decode cX4_fact 28 = .ok (.iconst 0, 1) := by decide +kernel
theorem dX4_fact_29 : decode cX4_fact 29 = .ok (.aload_n 0, 1) := by decide +kernel
theorem dX4_fact_30 : decode cX4_fact 30 = .ok (.getfield 19, 3) := by decide +kernel
theorem dX4_fact_33 : decode cX4_fact 33 = .ok (.getfield 40, 3) := by decide +kernel
theorem dX4_fact_36 : decode cX4_fact 36 = .ok (.iconst 1, 1) := by decide +kernel
theorem dX4_fact_37 : decode cX4_fact 37 = .ok (.isub, 1) := by decide +kernel
theorem dX4_fact_38 : decode cX4_fact 38 = .ok (.invokestatic 54, 3) := by decide +kernel
theorem dX4_fact_41 : decode cX4_fact 41 = .ok (.ifCond .eq 22, 3) := by decide +kernel
theorem dX4_fact_44 : decode cX4_fact 44 = .ok (.aload_n 0, 1) := by decide +kernel
theorem dX4_fact_45 : decode cX4_fact 45 = .ok (.getfield 19, 3) := by decide +kernel
theorem dX4_fact_48 : decode cX4_fact 48 = .ok (.iload_n 3, 1) := by decide +kernel
theorem dX4_fact_49 : decode cX4_fact 49 = .ok (.invokevirtual 47, 3) := by decide +kernel
theorem dX4_fact_52 : decode cX4_fact 52 = .ok (.ifCond .eq 7, 3) := by decide +kernel
theorem dX4_fact_55 : decode cX4_fact 55 = .ok (.iconst 1, 1) := by decide +kernel
theorem dX4_fact_56 : decode cX4_fact 56 = .ok (.goto 9, 3) := by decide +kernel
theorem dX4_fact_59 : decode cX4_fact 59 = .ok (.iconst 0, 1) := by decide +kernel
theorem dX4_fact_60 : decode cX4_fact 60 = .ok (.goto 5, 3) := by decide +kernel
theorem dX4_fact_63 : decode cX4_fact 63 = .ok (.bipush (-2), 2) := by decide +kernel
theorem dX4_fact_65 : decode cX4_fact 65 = .ok (.ireturn, 1) := by decide +kernel
theorem dX4_fact_66 : decode cX4_fact 66 = .ok (.iload_n 2, 1) := by decide +kernel
theorem dX4_fact_67 : decode cX4_fact 67 = .ok (.bipush 6, 2) := by decide +kernel
theorem dX4_fact_69 : decode cX4_fact 69 = .ok (.if_icmp .ne 25, 3) := by decide +kernel
theorem dX4_fact_72 : decode cX4_fact 72 = .ok (.iload_n 3, 1) := by decide +kernel
theorem dX4_fact_73 : decode cX4_fact 73 = .ok (.invokestatic 51, 3) := by decide +kernel
theorem dX4_fact_76 : decode cX4_fact 76 = .ok (.ifCond .eq 15, 3) := by decide +kernel
theorem dX4_fact_79 : decode cX4_fact 79 = .ok (.aload_n 0, 1) := by decide +kernel
theorem dX4_fact_80 : decode cX4_fact 80 = .ok (.getfield 19, 3) := by decide +kernel
theorem dX4_fact_83 : decode cX4_fact 83 = .ok (.getfield 163, 3) := by decide +kernel
theorem dX4_fact_86 : decode cX4_fact 86 = .ok (.iload_n 3, 1) := by decide +kernel
theorem dX4_fact_87 : decode cX4_fact 87 = .ok (.iaload, 1) := by decide +kernel
theorem dX4_fact_88 : decode cX4_fact 88 = .ok (.goto 5, 3) := by decide +kernel
theorem dX4_fact_91 : decode cX4_fact 91 = .ok (.bipush (-2), 2) := by decide +kernel
theorem dX4_fact_93 : decode cX4_fact 93 = .ok (.ireturn, 1) := by decide +kernel
theorem dX4_fact_94 : decode cX4_fact 94 = .ok (.aload_n 0, 1) := by decide +kernel
theorem dX4_fact_95 : decode cX4_fact 95 = .ok (.getfield 19, 3) := by decide +kernel
theorem dX4_fact_98 : decode cX4_fact 98 = .ok (.iload_n 3, 1) := by decide +kernel
theorem dX4_fact_99 : decode cX4_fact 99 = .ok (.invokevirtual 47, 3) := by decide +kernel
theorem dX4_fact_102 : decode cX4_fact 102 = .ok (.ifCond .eq 12, 3) := by decide +kernel
theorem dX4_fact_105 : decode cX4_fact 105 = .ok (.aload_n 0, 1) := by decide +kernel
theorem dX4_fact_106 : decode cX4_fact 106 = .ok (.iload_n 2, 1) := by decide +kernel
theorem dX4_fact_107 : decode cX4_fact 107 = .ok (.iload_n 3, 1) := by decide +kernel
theorem dX4_fact_108 : decode cX4_fact 108 = .ok (.invokevirtual 166, 3) := by decide +kernel
theorem dX4_fact_111 : decode cX4_fact 111 = .ok (.goto 5, 3) := by decide +kernel
theorem dX4_fact_114 : decode cX4_fact 114 = .ok (.bipush (-2), 2) := by decide +kernel
theorem dX4_fact_116 : decode cX4_fact 116 = .ok (.ireturn, 1) := by decide +kernel
theorem dX4_change_0 : decode cX4_change 0 = .ok (.iload_n 1, 1) := by decide +kernel
theorem dX4_change_1 : decode cX4_change 1 = .ok (.iconst 1, 1) := by decide +kernel
theorem dX4_change_2 : decode cX4_change 2 = .ok (.aload_n 0, 1) := by decide +kernel
theorem dX4_change_3 : decode cX4_change 3 = .ok (.getfield 10, 3) := by decide +kernel
theorem dX4_change_6 : decode cX4_change 6 = .ok (.getfield 72, 3) := by decide +kernel
theorem dX4_change_9 : decode cX4_change 9 = .ok (.invokestatic 54, 3) := by decide +kernel
theorem dX4_change_12 : decode cX4_change 12 = .ok (.ifCond .eq 17, 3) := by decide +kernel
theorem dX4_change_15 : decode cX4_change 15 = .ok (.aload_n 0, 1) := by decide +kernel
theorem dX4_change_16 : decode cX4_change 16 = .ok (.getfield 10, 3) := by decide +kernel
theorem dX4_change_19 : decode cX4_change 19 = .ok (.getfield 170, 3) := by decide +kernel
theorem dX4_change_22 : decode cX4_change 22 = .ok (.iload_n 1, 1) := by decide +kernel
theorem dX4_change_23 : decode cX4_change 23 = .ok (.iconst 1, 1) := by decide +kernel
theorem dX4_change_24 : decode cX4_change 24 = .ok (.isub, 1) := by decide +kernel
theorem dX4_change_25 : decode cX4_change 25 = .ok (.iaload, 1) := by decide +kernel
theorem dX4_change_26 : decode cX4_change 26 = .ok (.goto 5, 3) := by decide +kernel
theorem dX4_change_29 : decode cX4_change 29 = .ok (.bipush (-2), 2) := by decide +kernel
theorem dX4_change_31 : decode cX4_change 31 = .ok (.ireturn, 1) := by decide +kernel
theorem dX4_enter_0 : decode cX4_enter 0 = .ok (.aload_n 0, 1) := by decide +kernel
theorem dX4_enter_1 : decode cX4_enter 1 = .ok (.getfield 10, 3) := by decide +kernel
theorem dX4_enter_4 : decode cX4_enter 4 = .ok (.getfield 72, 3) := by decide +kernel
theorem dX4_enter_7 : decode cX4_enter 7 = .ok (.bipush 120, 2) := by decide +kernel
theorem dX4_enter_9 : decode cX4_enter 9 = .ok (.if_icmp .lt 6, 3) := by decide +kernel
theorem dX4_enter_12 : decode cX4_enter 12 = .ok (.bipush (-4), 2) := by decide +kernel
theorem dX4_enter_14 : decode cX4_enter 14 = .ok (.ireturn, 1) := by decide +kernel
theorem dX4_enter_15 : decode cX4_enter 15 = .ok (.aload_n 0, 1) := by decide +kernel
theorem dX4_enter_16 : decode cX4_enter 16 = .ok (.getfield 10, 3) := by decide +kernel
theorem dX4_enter_19 : decode cX4_enter 19 = .ok (.iload_n 1, 1) := by decide +kernel
theorem dX4_enter_20 : decode cX4_enter 20 = .ok (.iload_n 2, 1) := by decide +kernel
theorem dX4_enter_21 : decode cX4_enter 21 = .ok (.iload_n 3, 1) := by decide +kernel
theorem dX4_enter_22 : decode cX4_enter 22 = .ok (.iload 4, 2) := by decide +kernel
theorem dX4_enter_24 : decode cX4_enter 24 = .ok (.iload 5, 2) := by decide +kernel
theorem dX4_enter_26 : decode cX4_enter 26 = .ok (.invokevirtual 173, 3) := by decide +kernel
theorem dX4_enter_29 : decode cX4_enter 29 = .ok (.aload_n 0, 1) := by decide +kernel
theorem dX4_enter_30 : decode cX4_enter 30 = .ok (.getfield 19, 3) := by decide +kernel
theorem dX4_enter_33 : decode cX4_enter 33 = .ok (.aload_n 0, 1) := by decide +kernel
theorem dX4_enter_34 : decode cX4_enter 34 = .ok (.getfield 10, 3) := by decide +kernel
theorem dX4_enter_37 : decode cX4_enter 37 = .ok (.aload_n 0, 1) := by decide +kernel
theorem dX4_enter_38 : decode cX4_enter 38 = .ok (.getfield 10, 3) := by decide +kernel
theorem dX4_enter_41 : decode cX4_enter 41 = .ok (.getfield 72, 3) := by decide +kernel
theorem dX4_enter_44 : decode cX4_enter 44 = .ok (.invokevirtual 129, 3) := by decide +kernel
theorem dX4_enter_47 : decode cX4_enter 47 = .ok (.aload_n 0, 1) := by decide +kernel
theorem dX4_enter_48 : decode cX4_enter 48 = .ok (.getfield 10, 3) := by decide +kernel
theorem dX4_enter_51 : decode cX4_enter 51 = .ok (.getfield 72, 3) := by decide +kernel
theorem dX4_enter_54 : decode cX4_enter 54 = .ok (.ireturn, 1) := by decide +kernel
theorem dX4_solveOf_0 : decode cX4_solveOf 0 = .ok (.iload_n 1, 1) := by decide +kernel
theorem dX4_solveOf_1 : decode cX4_solveOf 1 = .ok (.iconst 0, 1) := by decide +kernel
theorem dX4_solveOf_2 : decode cX4_solveOf 2 = .ok (.aload_n 0, 1) := by decide +kernel
theorem dX4_solveOf_3 : decode cX4_solveOf 3 = .ok (.getfield 32, 3) := by decide +kernel
theorem dX4_solveOf_6 : decode cX4_solveOf 6 = .ok (.iconst 1, 1) := by decide +kernel
theorem dX4_solveOf_7 : decode cX4_solveOf 7 = .ok (.isub, 1) := by decide +kernel
theorem dX4_solveOf_8 : decode cX4_solveOf 8 = .ok (.invokestatic 54, 3) := by decide +kernel
theorem dX4_solveOf_11 : decode cX4_solveOf 11 = .ok (.ifCond .eq 12, 3) := by decide +kernel
theorem dX4_solveOf_14 : decode cX4_solveOf 14 = .ok (.aload_n 0, 1) := by decide +kernel
theorem dX4_solveOf_15 : decode cX4_solveOf 15 = .ok (.getfield 28, 3) := by decide +kernel
theorem dX4_solveOf_18 : decode cX4_solveOf 18 = .ok (.iload_n 1, 1) := by decide +kernel
theorem dX4_solveOf_19 : decode cX4_solveOf 19 = .ok (.aaload, 1) := by decide +kernel
theorem dX4_solveOf_20 : decode cX4_solveOf 20 = .ok (.goto 4, 3) := by decide +kernel
theorem dX4_solveOf_23 : decode cX4_solveOf 23 = .ok (.aconst_null, 1) := by decide +kernel
theorem dX4_solveOf_24 : decode cX4_solveOf 24 = .ok (.areturn, 1) := by decide +kernel
theorem dX4_countOf_0 : decode cX4_countOf 0 = .ok (.iload_n 1, 1) := by decide +kernel
theorem dX4_countOf_1 : decode cX4_countOf 1 = .ok (.tableswitch 60 0 3 #[31, 39, 47, 55], 31) := by decide +kernel
theorem dX4_countOf_32 : decode cX4_countOf 32 = .ok (.aload_n 0, 1) := by decide +kernel
theorem dX4_countOf_33 : decode cX4_countOf 33 = .ok (.getfield 19, 3) := by decide +kernel
theorem dX4_countOf_36 : decode cX4_countOf 36 = .ok (.invokevirtual 177, 3) := by decide +kernel
theorem dX4_countOf_39 : decode cX4_countOf 39 = .ok (.ireturn, 1) := by decide +kernel
theorem dX4_countOf_40 : decode cX4_countOf 40 = .ok (.aload_n 0, 1) := by decide +kernel
theorem dX4_countOf_41 : decode cX4_countOf 41 = .ok (.getfield 19, 3) := by decide +kernel
theorem dX4_countOf_44 : decode cX4_countOf 44 = .ok (.getfield 40, 3) := by decide +kernel
theorem dX4_countOf_47 : decode cX4_countOf 47 = .ok (.ireturn, 1) := by decide +kernel
theorem dX4_countOf_48 : decode cX4_countOf 48 = .ok (.aload_n 0, 1) := by decide +kernel
theorem dX4_countOf_49 : decode cX4_countOf 49 = .ok (.getfield 10, 3) := by decide +kernel
theorem dX4_countOf_52 : decode cX4_countOf 52 = .ok (.getfield 72, 3) := by decide +kernel
theorem dX4_countOf_55 : decode cX4_countOf 55 = .ok (.ireturn, 1) := by decide +kernel
theorem dX4_countOf_56 : decode cX4_countOf 56 = .ok (.aload_n 0, 1) := by decide +kernel
theorem dX4_countOf_57 : decode cX4_countOf 57 = .ok (.getfield 32, 3) := by decide +kernel
theorem dX4_countOf_60 : decode cX4_countOf 60 = .ok (.ireturn, 1) := by decide +kernel
theorem dX4_countOf_61 : decode cX4_countOf 61 = .ok (.bipush (-2), 2) := by decide +kernel
theorem dX4_countOf_63 : decode cX4_countOf 63 = .ok (.ireturn, 1) := by decide +kernel
theorem dX4_traitOf_0 : decode cX4_traitOf 0 = .ok (.iload_n 1, 1) := by decide +kernel
theorem dX4_traitOf_1 : decode cX4_traitOf 1 = .ok (.tableswitch 92 2 5 #[31, 41, 51, 61], 31) := by decide +kernel
theorem dX4_traitOf_32 : decode cX4_traitOf 32 = .ok (.aload_n 0, 1) := by decide +kernel
theorem dX4_traitOf_33 : decode cX4_traitOf 33 = .ok (.getfield 19, 3) := by decide +kernel
theorem dX4_traitOf_36 : decode cX4_traitOf 36 = .ok (.getfield 180, 3) := by decide +kernel
theorem dX4_traitOf_39 : decode cX4_traitOf 39 = .ok (.iload_n 2, 1) := by decide +kernel
theorem dX4_traitOf_40 : decode cX4_traitOf 40 = .ok (.iaload, 1) := by decide +kernel
theorem dX4_traitOf_41 : decode cX4_traitOf 41 = .ok (.ireturn, 1) := by decide +kernel
theorem dX4_traitOf_42 : decode cX4_traitOf 42 = .ok (.aload_n 0, 1) := by decide +kernel
theorem dX4_traitOf_43 : decode cX4_traitOf 43 = .ok (.getfield 19, 3) := by decide +kernel
theorem dX4_traitOf_46 : decode cX4_traitOf 46 = .ok (.getfield 183, 3) := by decide +kernel
theorem dX4_traitOf_49 : decode cX4_traitOf 49 = .ok (.iload_n 2, 1) := by decide +kernel
theorem dX4_traitOf_50 : decode cX4_traitOf 50 = .ok (.iaload, 1) := by decide +kernel
theorem dX4_traitOf_51 : decode cX4_traitOf 51 = .ok (.ireturn, 1) := by decide +kernel
theorem dX4_traitOf_52 : decode cX4_traitOf 52 = .ok (.aload_n 0, 1) := by decide +kernel
theorem dX4_traitOf_53 : decode cX4_traitOf 53 = .ok (.getfield 19, 3) := by decide +kernel
theorem dX4_traitOf_56 : decode cX4_traitOf 56 = .ok (.getfield 186, 3) := by decide +kernel
theorem dX4_traitOf_59 : decode cX4_traitOf 59 = .ok (.iload_n 2, 1) := by decide +kernel
theorem dX4_traitOf_60 : decode cX4_traitOf 60 = .ok (.iaload, 1) := by decide +kernel
theorem dX4_traitOf_61 : decode cX4_traitOf 61 = .ok (.ireturn, 1) := by decide +kernel
theorem dX4_traitOf_62 : decode cX4_traitOf 62 = .ok (.aload_n 0, 1) := by decide +kernel
theorem dX4_traitOf_63 : decode cX4_traitOf 63 = .ok (.getfield 19, 3) := by decide +kernel
theorem dX4_traitOf_66 : decode cX4_traitOf 66 = .ok (.getfield 61, 3) := by decide +kernel
theorem dX4_traitOf_69 : decode cX4_traitOf 69 = .ok (.iload_n 2, 1) := by decide +kernel
theorem dX4_traitOf_70 : decode cX4_traitOf 70 = .ok (.iaload, 1) := by decide +kernel
theorem dX4_traitOf_71 : decode cX4_traitOf 71 = .ok (.bipush (-2), 2) := by decide +kernel
theorem dX4_traitOf_73 : decode cX4_traitOf 73 = .ok (.if_icmp .ne 8, 3) := by decide +kernel
theorem dX4_traitOf_76 : decode cX4_traitOf 76 = .ok (.bipush (-3), 2) := by decide +kernel
theorem dX4_traitOf_78 : decode cX4_traitOf 78 = .ok (.goto 14, 3) := by decide +kernel
theorem dX4_traitOf_81 : decode cX4_traitOf 81 = .ok (.aload_n 0, 1) := by decide +kernel
theorem dX4_traitOf_82 : decode cX4_traitOf 82 = .ok (.getfield 19, 3) := by decide +kernel
theorem dX4_traitOf_85 : decode cX4_traitOf 85 = .ok (.getfield 61, 3) := by decide +kernel
theorem dX4_traitOf_88 : decode cX4_traitOf 88 = .ok (.iload_n 2, 1) := by decide +kernel
theorem dX4_traitOf_89 : decode cX4_traitOf 89 = .ok (.iaload, 1) := by decide +kernel
theorem dX4_traitOf_90 : decode cX4_traitOf 90 = .ok (.iconst 1, 1) := by decide +kernel
theorem dX4_traitOf_91 : decode cX4_traitOf 91 = .ok (.iadd, 1) := by decide +kernel
theorem dX4_traitOf_92 : decode cX4_traitOf 92 = .ok (.ireturn, 1) := by decide +kernel
theorem dX4_traitOf_93 : decode cX4_traitOf 93 = .ok (.bipush (-2), 2) := by decide +kernel
theorem dX4_traitOf_95 : decode cX4_traitOf 95 = .ok (.ireturn, 1) := by decide +kernel
theorem dX4_isWithin_0 : decode cX4_isWithin 0 = .ok (.iload_n 0, 1) := by decide +kernel
theorem dX4_isWithin_1 : decode cX4_isWithin 1 = .ok (.iload_n 1, 1) := by decide +kernel
theorem dX4_isWithin_2 : decode cX4_isWithin 2 = .ok (.if_icmp .lt 12, 3) := by decide +kernel
theorem dX4_isWithin_5 : decode cX4_isWithin 5 = .ok (.iload_n 0, 1) := by decide +kernel
theorem dX4_isWithin_6 : decode cX4_isWithin 6 = .ok (.iload_n 2, 1) := by decide +kernel
theorem dX4_isWithin_7 : decode cX4_isWithin 7 = .ok (.if_icmp .gt 7, 3) := by decide +kernel
theorem dX4_isWithin_10 : decode cX4_isWithin 10 = .ok (.iconst 1, 1) := by decide +kernel
theorem dX4_isWithin_11 : decode cX4_isWithin 11 = .ok (.goto 4, 3) := by decide +kernel
theorem dX4_isWithin_14 : decode cX4_isWithin 14 = .ok (.iconst 0, 1) := by decide +kernel
theorem dX4_isWithin_15 : decode cX4_isWithin 15 = .ok (.ireturn, 1) := by decide +kernel
theorem dX4_isRoom_0 : decode cX4_isRoom 0 = .ok (.iload_n 0, 1) := by decide +kernel
theorem dX4_isRoom_1 : decode cX4_isRoom 1 = .ok (.iconst 0, 1) := by decide +kernel
theorem dX4_isRoom_2 : decode cX4_isRoom 2 = .ok (.iconst 5, 1) := by decide +kernel
theorem dX4_isRoom_3 : decode cX4_isRoom 3 = .ok (.invokestatic 54, 3) := by decide +kernel
theorem dX4_isRoom_6 : decode cX4_isRoom 6 = .ok (.ireturn, 1) := by decide +kernel
theorem dX4_isMark_0 : decode cX4_isMark 0 = .ok (.iload_n 0, 1) := by decide +kernel
theorem dX4_isMark_1 : decode cX4_isMark 1 = .ok (.iconst 0, 1) := by decide +kernel
theorem dX4_isMark_2 : decode cX4_isMark 2 = .ok (.iconst 1, 1) := by decide +kernel
theorem dX4_isMark_3 : decode cX4_isMark 3 = .ok (.invokestatic 54, 3) := by decide +kernel
theorem dX4_isMark_6 : decode cX4_isMark 6 = .ok (.ireturn, 1) := by decide +kernel
theorem dX4_areTraits_0 : decode cX4_areTraits 0 = .ok (.iload_n 0, 1) := by decide +kernel
theorem dX4_areTraits_1 : decode cX4_areTraits 1 = .ok (.iconst 1, 1) := by decide +kernel
theorem dX4_areTraits_2 : decode cX4_areTraits 2 = .ok (.bipush 100, 2) := by decide +kernel
theorem dX4_areTraits_4 : decode cX4_areTraits 4 = .ok (.invokestatic 54, 3) := by decide +kernel
theorem dX4_areTraits_7 : decode cX4_areTraits 7 = .ok (.ifCond .eq 24, 3) := by decide +kernel
theorem dX4_areTraits_10 : decode cX4_areTraits 10 = .ok (.iload_n 1, 1) := by decide +kernel
theorem dX4_areTraits_11 : decode cX4_areTraits 11 = .ok (.iconst 0, 1) := by decide +kernel
theorem dX4_areTraits_12 : decode cX4_areTraits 12 = .ok (.bipush 50, 2) := by decide +kernel
theorem dX4_areTraits_14 : decode cX4_areTraits 14 = .ok (.invokestatic 54, 3) := by decide +kernel
theorem dX4_areTraits_17 : decode cX4_areTraits 17 = .ok (.ifCond .eq 14, 3) := by decide +kernel
theorem dX4_areTraits_20 : decode cX4_areTraits 20 = .ok (.iload_n 2, 1) := by decide +kernel
theorem dX4_areTraits_21 : decode cX4_areTraits 21 = .ok (.invokestatic 51, 3) := by decide +kernel
theorem dX4_areTraits_24 : decode cX4_areTraits 24 = .ok (.ifCond .eq 7, 3) := by decide +kernel
theorem dX4_areTraits_27 : decode cX4_areTraits 27 = .ok (.iconst 1, 1) := by decide +kernel
theorem dX4_areTraits_28 : decode cX4_areTraits 28 = .ok (.goto 4, 3) := by decide +kernel
theorem dX4_areTraits_31 : decode cX4_areTraits 31 = .ok (.iconst 0, 1) := by decide +kernel
theorem dX4_areTraits_32 : decode cX4_areTraits 32 = .ok (.ireturn, 1) := by decide +kernel
theorem dX4_scoreFrom_0 : decode cX4_scoreFrom 0 = .ok (.iload_n 0, 1) := by decide +kernel
theorem dX4_scoreFrom_1 : decode cX4_scoreFrom 1 = .ok (.i2l, 1) := by decide +kernel
theorem dX4_scoreFrom_2 : decode cX4_scoreFrom 2 = .ok (.bipush 32, 2) := by decide +kernel
theorem dX4_scoreFrom_4 : decode cX4_scoreFrom 4 = .ok (.lshl, 1) := by decide +kernel
theorem dX4_scoreFrom_5 : decode cX4_scoreFrom 5 = .ok (.iload_n 1, 1) := by decide +kernel
theorem dX4_scoreFrom_6 : decode cX4_scoreFrom 6 = .ok (.i2l, 1) := by decide +kernel
theorem dX4_scoreFrom_7 : decode cX4_scoreFrom 7 = .ok (.ladd, 1) := by decide +kernel
theorem dX4_scoreFrom_8 : decode cX4_scoreFrom 8 = .ok (.lreturn, 1) := by decide +kernel
theorem dX4_partOf_0 : decode cX4_partOf 0 = .ok (.iload_n 2, 1) := by decide +kernel
theorem dX4_partOf_1 : decode cX4_partOf 1 = .ok (.ifCond .eq 11, 3) := by decide +kernel
theorem dX4_partOf_4 : decode cX4_partOf 4 = .ok (.lload_n 0, 1) := by decide +kernel
theorem dX4_partOf_5 : decode cX4_partOf 5 = .ok (.bipush 32, 2) := by decide +kernel
theorem dX4_partOf_7 : decode cX4_partOf 7 = .ok (.lshr, 1) := by decide +kernel
theorem dX4_partOf_8 : decode cX4_partOf 8 = .ok (.l2i, 1) := by decide +kernel
theorem dX4_partOf_9 : decode cX4_partOf 9 = .ok (.goto 5, 3) := by decide +kernel
theorem dX4_partOf_12 : decode cX4_partOf 12 = .ok (.lload_n 0, 1) := by decide +kernel
theorem dX4_partOf_13 : decode cX4_partOf 13 = .ok (.l2i, 1) := by decide +kernel
theorem dX4_partOf_14 : decode cX4_partOf 14 = .ok (.ireturn, 1) := by decide +kernel
theorem dX4_emptyPlan_0 : decode cX4_emptyPlan 0 = .ok (.bipush 16, 2) := by decide +kernel
theorem dX4_emptyPlan_2 : decode cX4_emptyPlan 2 = .ok (.newarray .int, 2) := by decide +kernel
theorem dX4_emptyPlan_4 : decode cX4_emptyPlan 4 = .ok (.astore_n 0, 1) := by decide +kernel
theorem dX4_emptyPlan_5 : decode cX4_emptyPlan 5 = .ok (.aload_n 0, 1) := by decide +kernel
theorem dX4_emptyPlan_6 : decode cX4_emptyPlan 6 = .ok (.iconst (-1), 1) := by decide +kernel
theorem dX4_emptyPlan_7 : decode cX4_emptyPlan 7 = .ok (.invokestatic 189, 3) := by decide +kernel
theorem dX4_emptyPlan_10 : decode cX4_emptyPlan 10 = .ok (.aload_n 0, 1) := by decide +kernel
theorem dX4_emptyPlan_11 : decode cX4_emptyPlan 11 = .ok (.areturn, 1) := by decide +kernel
theorem dX5_init_0 : decode cX5_init 0 = .ok (.aload_n 0, 1) := by decide +kernel
theorem dX5_init_1 : decode cX5_init 1 = .ok (.invokespecial 1, 3) := by decide +kernel
theorem dX5_init_4 : decode cX5_init 4 = .ok (.aload_n 0, 1) := by decide +kernel
theorem dX5_init_5 : decode cX5_init 5 = .ok (.bipush 120, 2) := by decide +kernel
theorem dX5_init_7 : decode cX5_init 7 = .ok (.newarray .int, 2) := by decide +kernel
theorem dX5_init_9 : decode cX5_init 9 = .ok (.putfield 7, 3) := by decide +kernel
theorem dX5_init_12 : decode cX5_init 12 = .ok (.aload_n 0, 1) := by decide +kernel
theorem dX5_init_13 : decode cX5_init 13 = .ok (.bipush 120, 2) := by decide +kernel
theorem dX5_init_15 : decode cX5_init 15 = .ok (.newarray .int, 2) := by decide +kernel
theorem dX5_init_17 : decode cX5_init 17 = .ok (.putfield 13, 3) := by decide +kernel
theorem dX5_init_20 : decode cX5_init 20 = .ok (.aload_n 0, 1) := by decide +kernel
theorem dX5_init_21 : decode cX5_init 21 = .ok (.bipush 120, 2) := by decide +kernel
theorem dX5_init_23 : decode cX5_init 23 = .ok (.newarray .int, 2) := by decide +kernel
theorem dX5_init_25 : decode cX5_init 25 = .ok (.putfield 16, 3) := by decide +kernel
theorem dX5_init_28 : decode cX5_init 28 = .ok (.aload_n 0, 1) := by decide +kernel
theorem dX5_init_29 : decode cX5_init 29 = .ok (.bipush 120, 2) := by decide +kernel
theorem dX5_init_31 : decode cX5_init 31 = .ok (.newarray .int, 2) := by decide +kernel
theorem dX5_init_33 : decode cX5_init 33 = .ok (.putfield 19, 3) := by decide +kernel
theorem dX5_init_36 : decode cX5_init 36 = .ok (.aload_n 0, 1) := by decide +kernel
theorem dX5_init_37 : decode cX5_init 37 = .ok (.bipush 120, 2) := by decide +kernel
theorem dX5_init_39 : decode cX5_init 39 = .ok (.newarray .int, 2) := by decide +kernel
theorem dX5_init_41 : decode cX5_init 41 = .ok (.putfield 22, 3) := by decide +kernel
theorem dX5_init_44 : decode cX5_init 44 = .ok (.aload_n 0, 1) := by decide +kernel
theorem dX5_init_45 : decode cX5_init 45 = .ok (.bipush 80, 2) := by decide +kernel
theorem dX5_init_47 : decode cX5_init 47 = .ok (.newarray .boolean, 2) := by decide +kernel
theorem dX5_init_49 : decode cX5_init 49 = .ok (.putfield 25, 3) := by decide +kernel
theorem dX5_init_52 : decode cX5_init 52 = .ok (.aload_n 0, 1) := by decide +kernel
theorem dX5_init_53 : decode cX5_init 53 = .ok (.bipush 80, 2) := by decide +kernel
theorem dX5_init_55 : decode cX5_init 55 = .ok (.newarray .int, 2) := by decide +kernel
theorem dX5_init_57 : decode cX5_init 57 = .ok (.putfield 29, 3) := by decide +kernel
theorem dX5_init_60 : decode cX5_init 60 = .ok (.aload_n 0, 1) := by decide +kernel
theorem dX5_init_61 : decode cX5_init 61 = .ok (.bipush 80, 2) := by decide +kernel
theorem dX5_init_63 : decode cX5_init 63 = .ok (.newarray .int, 2) := by decide +kernel
theorem dX5_init_65 : decode cX5_init 65 = .ok (.putfield 32, 3) := by decide +kernel
theorem dX5_init_68 : decode cX5_init 68 = .ok (.aload_n 0, 1) := by decide +kernel
theorem dX5_init_69 : decode cX5_init 69 = .ok (.bipush 80, 2) := by decide +kernel
theorem dX5_init_71 : decode cX5_init 71 = .ok (.newarray .int, 2) := by decide +kernel
theorem dX5_init_73 : decode cX5_init 73 = .ok (.putfield 35, 3) := by decide +kernel
theorem dX5_init_76 : decode cX5_init 76 = .ok (.aload_n 0, 1) := by decide +kernel
theorem dX5_init_77 : decode cX5_init 77 = .ok (.bipush 80, 2) := by decide +kernel
theorem dX5_init_79 : decode cX5_init 79 = .ok (.newarray .int, 2) := by decide +kernel
theorem dX5_init_81 : decode cX5_init 81 = .ok (.putfield 38, 3) := by decide +kernel
theorem dX5_init_84 : decode cX5_init 84 = .ok (.aload_n 0, 1) := by decide +kernel
theorem dX5_init_85 : decode cX5_init 85 = .ok (.bipush 80, 2) := by decide +kernel
theorem dX5_init_87 : decode cX5_init 87 = .ok (.newarray .int, 2) := by decide +kernel
theorem dX5_init_89 : decode cX5_init 89 = .ok (.putfield 41, 3) := by decide +kernel
theorem dX5_init_92 : decode cX5_init 92 = .ok (.aload_n 0, 1) := by decide +kernel
theorem dX5_init_93 : decode cX5_init 93 = .ok (.bipush 30, 2) := by decide +kernel
theorem dX5_init_95 : decode cX5_init 95 = .ok (.newarray .int, 2) := by decide +kernel
theorem dX5_init_97 : decode cX5_init 97 = .ok (.putfield 44, 3) := by decide +kernel
theorem dX5_init_100 : decode cX5_init 100 = .ok (.aload_n 0, 1) := by decide +kernel
theorem dX5_init_101 : decode cX5_init 101 = .ok (.sipush 320, 3) := by decide +kernel
theorem dX5_init_104 : decode cX5_init 104 = .ok (.newarray .int, 2) := by decide +kernel
theorem dX5_init_106 : decode cX5_init 106 = .ok (.putfield 47, 3) := by decide +kernel
theorem dX5_init_109 : decode cX5_init 109 = .ok (.aload_n 0, 1) := by decide +kernel
theorem dX5_init_110 : decode cX5_init 110 = .ok (.iconst 3, 1) := by decide +kernel
theorem dX5_init_111 : decode cX5_init 111 = .ok (.newarray .int, 2) := by decide +kernel
theorem dX5_init_113 : decode cX5_init 113 = .ok (.putfield 50, 3) := by decide +kernel
theorem dX5_init_116 : decode cX5_init 116 = .ok (.aload_n 0, 1) := by decide +kernel
theorem dX5_init_117 : decode cX5_init 117 = .ok (.iconst 3, 1) := by decide +kernel
theorem dX5_init_118 : decode cX5_init 118 = .ok (.newarray .int, 2) := by decide +kernel
theorem dX5_init_120 : decode cX5_init 120 = .ok (.putfield 53, 3) := by decide +kernel
theorem dX5_init_123 : decode cX5_init 123 = .ok (.aload_n 0, 1) := by decide +kernel
theorem dX5_init_124 : decode cX5_init 124 = .ok (.iconst 3, 1) := by decide +kernel
theorem dX5_init_125 : decode cX5_init 125 = .ok (.newarray .int, 2) := by decide +kernel
theorem dX5_init_127 : decode cX5_init 127 = .ok (.putfield 56, 3) := by decide +kernel
theorem dX5_init_130 : decode cX5_init 130 = .ok (.aload_n 0, 1) := by decide +kernel
theorem dX5_init_131 : decode cX5_init 131 = .ok (.iconst 3, 1) := by decide +kernel
theorem dX5_init_132 : decode cX5_init 132 = .ok (.newarray .int, 2) := by decide +kernel
theorem dX5_init_134 : decode cX5_init 134 = .ok (.putfield 59, 3) := by decide +kernel
theorem dX5_init_137 : decode cX5_init 137 = .ok (.aload_n 0, 1) := by decide +kernel
theorem dX5_init_138 : decode cX5_init 138 = .ok (.bipush 24, 2) := by decide +kernel
theorem dX5_init_140 : decode cX5_init 140 = .ok (.newarray .int, 2) := by decide +kernel
theorem dX5_init_142 : decode cX5_init 142 = .ok (.putfield 62, 3) := by decide +kernel
theorem dX5_init_145 : decode cX5_init 145 = .ok (.aload_n 0, 1) := by decide +kernel
theorem dX5_init_146 : decode cX5_init 146 = .ok (.bipush 24, 2) := by decide +kernel
theorem dX5_init_148 : decode cX5_init 148 = .ok (.newarray .int, 2) := by decide +kernel
theorem dX5_init_150 : decode cX5_init 150 = .ok (.putfield 65, 3) := by decide +kernel
theorem dX5_init_153 : decode cX5_init 153 = .ok (.aload_n 0, 1) := by decide +kernel
theorem dX5_init_154 : decode cX5_init 154 = .ok (.iconst 3, 1) := by decide +kernel
theorem dX5_init_155 : decode cX5_init 155 = .ok (.newarray .int, 2) := by decide +kernel
theorem dX5_init_157 : decode cX5_init 157 = .ok (.putfield 68, 3) := by decide +kernel
theorem dX5_init_160 : decode cX5_init 160 = .ok (.aload_n 0, 1) := by decide +kernel
theorem dX5_init_161 : decode cX5_init 161 = .ok (.iconst 3, 1) := by decide +kernel
theorem dX5_init_162 : decode cX5_init 162 = .ok (.newarray .int, 2) := by decide +kernel
theorem dX5_init_164 : decode cX5_init 164 = .ok (.putfield 71, 3) := by decide +kernel
theorem dX5_init_167 : decode cX5_init 167 = .ok (.aload_n 0, 1) := by decide +kernel
theorem dX5_init_168 : decode cX5_init 168 = .ok (.bipush 6, 2) := by decide +kernel
theorem dX5_init_170 : decode cX5_init 170 = .ok (.newarray .boolean, 2) := by decide +kernel
theorem dX5_init_172 : decode cX5_init 172 = .ok (.putfield 74, 3) := by decide +kernel
theorem dX5_init_175 : decode cX5_init 175 = .ok (.aload_n 0, 1) := by decide +kernel
theorem dX5_init_176 : decode cX5_init 176 = .ok (.bipush 6, 2) := by decide +kernel
theorem dX5_init_178 : decode cX5_init 178 = .ok (.newarray .int, 2) := by decide +kernel
theorem dX5_init_180 : decode cX5_init 180 = .ok (.putfield 77, 3) := by decide +kernel
theorem dX5_init_183 : decode cX5_init 183 = .ok (.aload_n 0, 1) := by decide +kernel
theorem dX5_init_184 : decode cX5_init 184 = .ok (.bipush 48, 2) := by decide +kernel
theorem dX5_init_186 : decode cX5_init 186 = .ok (.newarray .int, 2) := by decide +kernel
theorem dX5_init_188 : decode cX5_init 188 = .ok (.putfield 80, 3) := by decide +kernel
theorem dX5_init_191 : decode cX5_init 191 = .ok (.aload_n 0, 1) := by decide +kernel
theorem dX5_init_192 : decode cX5_init 192 = .ok (.bipush 48, 2) := by decide +kernel
theorem dX5_init_194 : decode cX5_init 194 = .ok (.newarray .int, 2) := by decide +kernel
theorem dX5_init_196 : decode cX5_init 196 = .ok (.putfield 83, 3) := by decide +kernel
theorem dX5_init_199 : decode cX5_init 199 = .ok (.aload_n 0, 1) := by decide +kernel
theorem dX5_init_200 : decode cX5_init 200 = .ok (.iconst 4, 1) := by decide +kernel
theorem dX5_init_201 : decode cX5_init 201 = .ok (.invokevirtual 86, 3) := by decide +kernel
theorem dX5_init_204 : decode cX5_init 204 = .ok (.return_, 1) := by decide +kernel
theorem dX5_in_0 : decode cX5_in 0 = .ok (.iload_n 0, 1) := by decide +kernel
theorem dX5_in_1 : decode cX5_in 1 = .ok (.iload_n 1, 1) := by decide +kernel
theorem dX5_in_2 : decode cX5_in 2 = .ok (.if_icmp .lt 12, 3) := by decide +kernel
theorem dX5_in_5 : decode cX5_in 5 = .ok (.iload_n 0, 1) := by decide +kernel
theorem dX5_in_6 : decode cX5_in 6 = .ok (.iload_n 2, 1) := by decide +kernel
theorem dX5_in_7 : decode cX5_in 7 = .ok (.if_icmp .gt 7, 3) := by decide +kernel
theorem dX5_in_10 : decode cX5_in 10 = .ok (.iconst 1, 1) := by decide +kernel
theorem dX5_in_11 : decode cX5_in 11 = .ok (.goto 4, 3) := by decide +kernel
theorem dX5_in_14 : decode cX5_in 14 = .ok (.iconst 0, 1) := by decide +kernel
theorem dX5_in_15 : decode cX5_in 15 = .ok (.ireturn, 1) := by decide +kernel
theorem dX5_forget_0 : decode cX5_forget 0 = .ok (.iconst 0, 1) := by decide +kernel
theorem dX5_forget_1 : decode cX5_forget 1 = .ok (.istore_n 2, 1) := by decide +kernel
theorem dX5_forget_2 : decode cX5_forget 2 = .ok (.iload_n 2, 1) := by decide +kernel
theorem dX5_forget_3 : decode cX5_forget 3 = .ok (.bipush 16, 2) := by decide +kernel
theorem dX5_forget_5 : decode cX5_forget 5 = .ok (.if_icmp .ge 46, 3) := by decide +kernel
theorem dX5_forget_8 : decode cX5_forget 8 = .ok (.aload_n 0, 1) := by decide +kernel
theorem dX5_forget_9 : decode cX5_forget 9 = .ok (.getfield 25, 3) := by decide +kernel
theorem dX5_forget_12 : decode cX5_forget 12 = .ok (.bipush 16, 2) := by decide +kernel
theorem dX5_forget_14 : decode cX5_forget 14 = .ok (.iload_n 1, 1) := by decide +kernel
theorem dX5_forget_15 : decode cX5_forget 15 = .ok (.imul, 1) := by decide +kernel
theorem dX5_forget_16 : decode cX5_forget 16 = .ok (.iload_n 2, 1) := by decide +kernel
theorem dX5_forget_17 : decode cX5_forget 17 = .ok (.iadd, 1) := by decide +kernel
theorem dX5_forget_18 : decode cX5_forget 18 = .ok (.iconst 0, 1) := by decide +kernel
theorem dX5_forget_19 : decode cX5_forget 19 = .ok (.bastore, 1) := by decide +kernel
theorem dX5_forget_20 : decode cX5_forget 20 = .ok (.aload_n 0, 1) := by decide +kernel
theorem dX5_forget_21 : decode cX5_forget 21 = .ok (.getfield 38, 3) := by decide +kernel
theorem dX5_forget_24 : decode cX5_forget 24 = .ok (.bipush 16, 2) := by decide +kernel
theorem dX5_forget_26 : decode cX5_forget 26 = .ok (.iload_n 1, 1) := by decide +kernel
theorem dX5_forget_27 : decode cX5_forget 27 = .ok (.imul, 1) := by decide +kernel
theorem dX5_forget_28 : decode cX5_forget 28 = .ok (.iload_n 2, 1) := by decide +kernel
theorem dX5_forget_29 : decode cX5_forget 29 = .ok (.iadd, 1) := by decide +kernel
theorem dX5_forget_30 : decode cX5_forget 30 = .ok (.bipush (-2), 2) := by decide +kernel
theorem dX5_forget_32 : decode cX5_forget 32 = .ok (.iastore, 1) := by decide +kernel
theorem dX5_forget_33 : decode cX5_forget 33 = .ok (.aload_n 0, 1) := by decide +kernel
theorem dX5_forget_34 : decode cX5_forget 34 = .ok (.getfield 41, 3) := by decide +kernel
theorem dX5_forget_37 : decode cX5_forget 37 = .ok (.bipush 16, 2) := by decide +kernel
theorem dX5_forget_39 : decode cX5_forget 39 = .ok (.iload_n 1, 1) := by decide +kernel
theorem dX5_forget_40 : decode cX5_forget 40 = .ok (.imul, 1) := by decide +kernel
theorem dX5_forget_41 : decode cX5_forget 41 = .ok (.iload_n 2, 1) := by decide +kernel
theorem dX5_forget_42 : decode cX5_forget 42 = .ok (.iadd, 1) := by decide +kernel
theorem dX5_forget_43 : decode cX5_forget 43 = .ok (.iconst 0, 1) := by decide +kernel
theorem dX5_forget_44 : decode cX5_forget 44 = .ok (.iastore, 1) := by decide +kernel
theorem dX5_forget_45 : decode cX5_forget 45 = .ok (.iinc 2 1, 3) := by decide +kernel
theorem dX5_forget_48 : decode cX5_forget 48 = .ok (.goto (-46), 3) := by decide +kernel
theorem dX5_forget_51 : decode cX5_forget 51 = .ok (.iconst 0, 1) := by decide +kernel
theorem dX5_forget_52 : decode cX5_forget 52 = .ok (.istore_n 2, 1) := by decide +kernel
theorem dX5_forget_53 : decode cX5_forget 53 = .ok (.iload_n 2, 1) := by decide +kernel
theorem dX5_forget_54 : decode cX5_forget 54 = .ok (.bipush 6, 2) := by decide +kernel
theorem dX5_forget_56 : decode cX5_forget 56 = .ok (.if_icmp .ge 22, 3) := by decide +kernel
theorem dX5_forget_59 : decode cX5_forget 59 = .ok (.aload_n 0, 1) := by decide +kernel
theorem dX5_forget_60 : decode cX5_forget 60 = .ok (.getfield 44, 3) := by decide +kernel
theorem dX5_forget_63 : decode cX5_forget 63 = .ok (.bipush 6, 2) := by decide +kernel
theorem dX5_forget_65 : decode cX5_forget 65 = .ok (.iload_n 1, 1) := by decide +kernel
theorem dX5_forget_66 : decode cX5_forget 66 = .ok (.imul, 1) := by decide +kernel
theorem dX5_forget_67 : decode cX5_forget 67 = .ok (.iload_n 2, 1) := by decide +kernel
theorem dX5_forget_68 : decode cX5_forget 68 = .ok (.iadd, 1) := by decide +kernel
theorem dX5_forget_69 : decode cX5_forget 69 = .ok (.bipush 100, 2) := by decide +kernel
theorem dX5_forget_71 : decode cX5_forget 71 = .ok (.iastore, 1) := by decide +kernel
theorem dX5_forget_72 : decode cX5_forget 72 = .ok (.iinc 2 1, 3) := by decide +kernel
theorem dX5_forget_75 : decode cX5_forget 75 = .ok (.goto (-22), 3) := by decide +kernel
theorem dX5_forget_78 : decode cX5_forget 78 = .ok (.return_, 1) := by decide +kernel
theorem dX5_tell_0 : decode cX5_tell 0 = .ok (.aload_n 0, 1) := by decide +kernel
theorem dX5_tell_1 : decode cX5_tell 1 = .ok (.getfield 29, 3) := by decide +kernel
theorem dX5_tell_4 : decode cX5_tell 4 = .ok (.iload_n 1, 1) := by decide +kernel
theorem dX5_tell_5 : decode cX5_tell 5 = .ok (.aload_n 0, 1) := by decide +kernel
theorem dX5_tell_6 : decode cX5_tell 6 = .ok (.getfield 16, 3) := by decide +kernel
theorem dX5_tell_9 : decode cX5_tell 9 = .ok (.iload_n 2, 1) := by decide +kernel
theorem dX5_tell_10 : decode cX5_tell 10 = .ok (.iaload, 1) := by decide +kernel
theorem dX5_tell_11 : decode cX5_tell 11 = .ok (.iastore, 1) := by decide +kernel
theorem dX5_tell_12 : decode cX5_tell 12 = .ok (.aload_n 0, 1) := by decide +kernel
theorem dX5_tell_13 : decode cX5_tell 13 = .ok (.getfield 32, 3) := by decide +kernel
theorem dX5_tell_16 : decode cX5_tell 16 = .ok (.iload_n 1, 1) := by decide +kernel
theorem dX5_tell_17 : decode cX5_tell 17 = .ok (.aload_n 0, 1) := by decide +kernel
theorem dX5_tell_18 : decode cX5_tell 18 = .ok (.getfield 19, 3) := by decide +kernel
theorem dX5_tell_21 : decode cX5_tell 21 = .ok (.iload_n 2, 1) := by decide +kernel
theorem dX5_tell_22 : decode cX5_tell 22 = .ok (.iaload, 1) := by decide +kernel
theorem dX5_tell_23 : decode cX5_tell 23 = .ok (.iastore, 1) := by decide +kernel
theorem dX5_tell_24 : decode cX5_tell 24 = .ok (.aload_n 0, 1) := by decide +kernel
theorem dX5_tell_25 : decode cX5_tell 25 = .ok (.getfield 35, 3) := by decide +kernel
theorem dX5_tell_28 : decode cX5_tell 28 = .ok (.iload_n 1, 1) := by decide +kernel
theorem dX5_tell_29 : decode cX5_tell 29 = .ok (.aload_n 0, 1) := by decide +kernel
theorem dX5_tell_30 : decode cX5_tell 30 = .ok (.getfield 22, 3) := by decide +kernel
theorem dX5_tell_33 : decode cX5_tell 33 = .ok (.iload_n 2, 1) := by decide +kernel
theorem dX5_tell_34 : decode cX5_tell 34 = .ok (.iaload, 1) := by decide +kernel
theorem dX5_tell_35 : decode cX5_tell 35 = .ok (.iastore, 1) := by decide +kernel
theorem dX5_tell_36 : decode cX5_tell 36 = .ok (.return_, 1) := by decide +kernel
theorem dX5_apply_0 : decode cX5_apply 0 = .ok (.bipush 16, 2) := by decide +kernel
theorem dX5_apply_2 : decode cX5_apply 2 = .ok (.iload_n 1, 1) := by decide +kernel
theorem dX5_apply_3 : decode cX5_apply 3 = .ok (.imul, 1) := by decide +kernel
theorem dX5_apply_4 : decode cX5_apply 4 = .ok (.aload_n 0, 1) := by decide +kernel
theorem dX5_apply_5 : decode cX5_apply 5 = .ok (.getfield 13, 3) := by decide +kernel
theorem dX5_apply_8 : decode cX5_apply 8 = .ok (.iload_n 2, 1) := by decide +kernel
theorem dX5_apply_9 : decode cX5_apply 9 = .ok (.iaload, 1) := by decide +kernel
theorem dX5_apply_10 : decode cX5_apply 10 = .ok (.iadd, 1) := by decide +kernel
theorem dX5_apply_11 : decode cX5_apply 11 = .ok (.istore_n 3, 1) := by decide +kernel
theorem dX5_apply_12 : decode cX5_apply 12 = .ok (.aload_n 0, 1) := by decide +kernel
theorem dX5_apply_13 : decode cX5_apply 13 = .ok (.getfield 7, 3) := by decide +kernel
theorem dX5_apply_16 : decode cX5_apply 16 = .ok (.iload_n 2, 1) := by decide +kernel
theorem dX5_apply_17 : decode cX5_apply 17 = .ok (.iaload, 1) := by decide +kernel
theorem dX5_apply_18 : decode cX5_apply 18 = .ok (.tableswitch 271 0 6 #[42, 58, 124, 133, 158, 205, 256], 42) := by decide +kernel
theorem dX5_apply_60 : decode cX5_apply 60 = .ok (.aload_n 0, 1) := by decide +kernel
theorem dX5_apply_61 : decode cX5_apply 61 = .ok (.getfield 25, 3) := by decide +kernel
theorem dX5_apply_64 : decode cX5_apply 64 = .ok (.iload_n 3, 1) := by decide +kernel
theorem dX5_apply_65 : decode cX5_apply 65 = .ok (.iconst 1, 1) := by decide +kernel
theorem dX5_apply_66 : decode cX5_apply 66 = .ok (.bastore, 1) := by decide +kernel
theorem dX5_apply_67 : decode cX5_apply 67 = .ok (.aload_n 0, 1) := by decide +kernel
theorem dX5_apply_68 : decode cX5_apply 68 = .ok (.iload_n 3, 1) := by decide +kernel
theorem dX5_apply_69 : decode cX5_apply 69 = .ok (.iload_n 2, 1) := by decide +kernel
theorem dX5_apply_70 : decode cX5_apply 70 = .ok (.invokevirtual 90, 3) := by decide +kernel
theorem dX5_apply_73 : decode cX5_apply 73 = .ok (.goto 224, 3) := by decide +kernel
theorem dX5_apply_76 : decode cX5_apply 76 = .ok (.aload_n 0, 1) := by decide +kernel
theorem dX5_apply_77 : decode cX5_apply 77 = .ok (.getfield 25, 3) := by decide +kernel
theorem dX5_apply_80 : decode cX5_apply 80 = .ok (.iload_n 3, 1) := by decide +kernel
theorem dX5_apply_81 : decode cX5_apply 81 = .ok (.iconst 0, 1) := by decide +kernel
theorem dX5_apply_82 : decode cX5_apply 82 = .ok (.bastore, 1) := by decide +kernel
theorem dX5_apply_83 : decode cX5_apply 83 = .ok (.aload_n 0, 1) := by decide +kernel
theorem dX5_apply_84 : decode cX5_apply 84 = .ok (.getfield 38, 3) := by decide +kernel
theorem dX5_apply_87 : decode cX5_apply 87 = .ok (.iload_n 3, 1) := by decide +kernel
theorem dX5_apply_88 : decode cX5_apply 88 = .ok (.bipush (-2), 2) := by decide +kernel
theorem dX5_apply_90 : decode cX5_apply 90 = .ok (.iastore, 1) := by decide +kernel
theorem dX5_apply_91 : decode cX5_apply 91 = .ok (.aload_n 0, 1) := by decide +kernel
theorem dX5_apply_92 : decode cX5_apply 92 = .ok (.getfield 41, 3) := by decide +kernel
theorem dX5_apply_95 : decode cX5_apply 95 = .ok (.iload_n 3, 1) := by decide +kernel
theorem dX5_apply_96 : decode cX5_apply 96 = .ok (.iconst 0, 1) := by decide +kernel
theorem dX5_apply_97 : decode cX5_apply 97 = .ok (.iastore, 1) := by decide +kernel
theorem dX5_apply_98 : decode cX5_apply 98 = .ok (.iconst 0, 1) := by decide +kernel
theorem dX5_apply_99 : decode cX5_apply 99 = .ok (.istore 4, 2) := by decide +kernel
theorem dX5_apply_101 : decode cX5_apply 101 = .ok (.iload 4, 2) := by decide +kernel
theorem dX5_apply_103 : decode cX5_apply 103 = .ok (.bipush 16, 2) := by decide +kernel
theorem dX5_apply_105 : decode cX5_apply 105 = .ok (.if_icmp .ge 34, 3) := by decide +kernel
theorem dX5_apply_108 : decode cX5_apply 108 = .ok (.aload_n 0, 1) := by decide +kernel
theorem dX5_apply_109 : decode cX5_apply 109 = .ok (.getfield 41, 3) := by decide +kernel
theorem dX5_apply_112 : decode cX5_apply 112 = .ok (.bipush 16, 2) := by decide +kernel
theorem dX5_apply_114 : decode cX5_apply 114 = .ok (.iload_n 1, 1) := by decide +kernel
theorem dX5_apply_115 : decode cX5_apply 115 = .ok (.imul, 1) := by decide +kernel
theorem dX5_apply_116 : decode cX5_apply 116 = .ok (.iload 4, 2) := by decide +kernel
theorem dX5_apply_118 : decode cX5_apply 118 = .ok (.iadd, 1) := by decide +kernel
theorem dX5_apply_119 : decode cX5_apply 119 = .ok (.dup2, 1) := by decide +kernel
theorem dX5_apply_120 : decode cX5_apply 120 = .ok (.iaload, 1) := by decide +kernel
theorem dX5_apply_121 : decode cX5_apply 121 = .ok (.iconst 1, 1) := by decide +kernel
theorem dX5_apply_122 : decode cX5_apply 122 = .ok (.aload_n 0, 1) := by decide +kernel
theorem dX5_apply_123 : decode cX5_apply 123 = .ok (.getfield 13, 3) := by decide +kernel
theorem dX5_apply_126 : decode cX5_apply 126 = .ok (.iload_n 2, 1) := by decide +kernel
theorem dX5_apply_127 : decode cX5_apply 127 = .ok (.iaload, 1) := by decide +kernel
theorem dX5_apply_128 : decode cX5_apply 128 = .ok (.ishl, 1) := by decide +kernel
theorem dX5_apply_129 : decode cX5_apply 129 = .ok (.iconst (-1), 1) := by decide +kernel
theorem dX5_apply_130 : decode cX5_apply 130 = .ok (.ixor, 1) := by decide +kernel
theorem dX5_apply_131 : decode cX5_apply 131 = .ok (.iand, 1) := by decide +kernel
theorem dX5_apply_132 : decode cX5_apply 132 = .ok (.iastore, 1) := by decide +kernel
theorem dX5_apply_133 : decode cX5_apply 133 = .ok (.iinc 4 1, 3) := by decide +kernel
theorem dX5_apply_136 : decode cX5_apply 136 = .ok (.goto (-35), 3) := by decide +kernel
theorem dX5_apply_139 : decode cX5_apply 139 = .ok (.goto 158, 3) := by decide +kernel
theorem dX5_apply_142 : decode cX5_apply 142 = .ok (.aload_n 0, 1) := by decide +kernel
theorem dX5_apply_143 : decode cX5_apply 143 = .ok (.iload_n 3, 1) := by decide +kernel
theorem dX5_apply_144 : decode cX5_apply 144 = .ok (.iload_n 2, 1) := by decide +kernel
theorem dX5_apply_145 : decode cX5_apply 145 = .ok (.invokevirtual 90, 3) := by decide +kernel
theorem dX5_apply_148 : decode cX5_apply 148 = .ok (.goto 149, 3) := by decide +kernel
theorem dX5_apply_151 : decode cX5_apply 151 = .ok (.aload_n 0, 1) := by decide +kernel
theorem dX5_apply_152 : decode cX5_apply 152 = .ok (.getfield 44, 3) := by decide +kernel
theorem dX5_apply_155 : decode cX5_apply 155 = .ok (.bipush 6, 2) := by decide +kernel
theorem dX5_apply_157 : decode cX5_apply 157 = .ok (.iload_n 1, 1) := by decide +kernel
theorem dX5_apply_158 : decode cX5_apply 158 = .ok (.imul, 1) := by decide +kernel
theorem dX5_apply_159 : decode cX5_apply 159 = .ok (.aload_n 0, 1) := by decide +kernel
theorem dX5_apply_160 : decode cX5_apply 160 = .ok (.getfield 13, 3) := by decide +kernel
theorem dX5_apply_163 : decode cX5_apply 163 = .ok (.iload_n 2, 1) := by decide +kernel
theorem dX5_apply_164 : decode cX5_apply 164 = .ok (.iaload, 1) := by decide +kernel
theorem dX5_apply_165 : decode cX5_apply 165 = .ok (.iadd, 1) := by decide +kernel
theorem dX5_apply_166 : decode cX5_apply 166 = .ok (.aload_n 0, 1) := by decide +kernel
theorem dX5_apply_167 : decode cX5_apply 167 = .ok (.getfield 16, 3) := by decide +kernel
theorem dX5_apply_170 : decode cX5_apply 170 = .ok (.iload_n 2, 1) := by decide +kernel
theorem dX5_apply_171 : decode cX5_apply 171 = .ok (.iaload, 1) := by decide +kernel
theorem dX5_apply_172 : decode cX5_apply 172 = .ok (.iastore, 1) := by decide +kernel
theorem dX5_apply_173 : decode cX5_apply 173 = .ok (.goto 124, 3) := by decide +kernel
theorem dX5_apply_176 : decode cX5_apply 176 = .ok (.aload_n 0, 1) := by decide +kernel
theorem dX5_apply_177 : decode cX5_apply 177 = .ok (.getfield 41, 3) := by decide +kernel
theorem dX5_apply_180 : decode cX5_apply 180 = .ok (.iload_n 3, 1) := by decide +kernel
theorem dX5_apply_181 : decode cX5_apply 181 = .ok (.dup2, 1) := by decide +kernel
theorem dX5_apply_182 : decode cX5_apply 182 = .ok (.iaload, 1) := by decide +kernel
theorem dX5_apply_183 : decode cX5_apply 183 = .ok (.iconst 1, 1) := by decide +kernel
theorem dX5_apply_184 : decode cX5_apply 184 = .ok (.aload_n 0, 1) := by decide +kernel
theorem dX5_apply_185 : decode cX5_apply 185 = .ok (.getfield 16, 3) := by decide +kernel
theorem dX5_apply_188 : decode cX5_apply 188 = .ok (.iload_n 2, 1) := by decide +kernel
theorem dX5_apply_189 : decode cX5_apply 189 = .ok (.iaload, 1) := by decide +kernel
theorem dX5_apply_190 : decode cX5_apply 190 = .ok (.ishl, 1) := by decide +kernel
theorem dX5_apply_191 : decode cX5_apply 191 = .ok (.ior, 1) := by decide +kernel
theorem dX5_apply_192 : decode cX5_apply 192 = .ok (.iastore, 1) := by decide +kernel
theorem dX5_apply_193 : decode cX5_apply 193 = .ok (.aload_n 0, 1) := by decide +kernel
theorem dX5_apply_194 : decode cX5_apply 194 = .ok (.getfield 41, 3) := by decide +kernel
theorem dX5_apply_197 : decode cX5_apply 197 = .ok (.bipush 16, 2) := by decide +kernel
theorem dX5_apply_199 : decode cX5_apply 199 = .ok (.iload_n 1, 1) := by decide +kernel
theorem dX5_apply_200 : decode cX5_apply 200 = .ok (.imul, 1) := by decide +kernel
theorem dX5_apply_201 : decode cX5_apply 201 = .ok (.aload_n 0, 1) := by decide +kernel
theorem dX5_apply_202 : decode cX5_apply 202 = .ok (.getfield 16, 3) := by decide +kernel
theorem dX5_apply_205 : decode cX5_apply 205 = .ok (.iload_n 2, 1) := by decide +kernel
theorem dX5_apply_206 : decode cX5_apply 206 = .ok (.iaload, 1) := by decide +kernel
theorem dX5_apply_207 : decode cX5_apply 207 = .ok (.iadd, 1) := by decide +kernel
theorem dX5_apply_208 : decode cX5_apply 208 = .ok (.dup2, 1) := by decide +kernel
theorem dX5_apply_209 : decode cX5_apply 209 = .ok (.iaload, 1) := by decide +kernel
theorem dX5_apply_210 : decode cX5_apply 210 = .ok (.iconst 1, 1) := by decide +kernel
theorem dX5_apply_211 : decode cX5_apply 211 = .ok (.aload_n 0, 1) := by decide +kernel
theorem dX5_apply_212 : decode cX5_apply 212 = .ok (.getfield 13, 3) := by decide +kernel
theorem dX5_apply_215 : decode cX5_apply 215 = .ok (.iload_n 2, 1) := by decide +kernel
theorem dX5_apply_216 : decode cX5_apply 216 = .ok (.iaload, 1) := by decide +kernel
theorem dX5_apply_217 : decode cX5_apply 217 = .ok (.ishl, 1) := by decide +kernel
theorem dX5_apply_218 : decode cX5_apply 218 = .ok (.ior, 1) := by decide +kernel
theorem dX5_apply_219 : decode cX5_apply 219 = .ok (.iastore, 1) := by decide +kernel
theorem dX5_apply_220 : decode cX5_apply 220 = .ok (.goto 77, 3) := by decide +kernel
theorem dX5_apply_223 : decode cX5_apply 223 = .ok (.aload_n 0, 1) := by decide +kernel
theorem dX5_apply_224 : decode cX5_apply 224 = .ok (.getfield 41, 3) := by decide +kernel
theorem dX5_apply_227 : decode cX5_apply 227 = .ok (.iload_n 3, 1) := by decide +kernel
theorem dX5_apply_228 : decode cX5_apply 228 = .ok (.dup2, 1) := by decide +kernel
theorem dX5_apply_229 : decode cX5_apply 229 = .ok (.iaload, 1) := by decide +kernel
theorem dX5_apply_230 : decode cX5_apply 230 = .ok (.iconst 1, 1) := by decide +kernel
theorem dX5_apply_231 : decode cX5_apply 231 = .ok (.aload_n 0, 1) := by decide +kernel
theorem dX5_apply_232 : decode cX5_apply 232 = .ok (.getfield 16, 3) := by decide +kernel
theorem dX5_apply_235 : decode cX5_apply 235 = .ok (.iload_n 2, 1) := by decide +kernel
theorem dX5_apply_236 : decode cX5_apply 236 = .ok (.iaload, 1) := by decide +kernel
theorem dX5_apply_237 : decode cX5_apply 237 = .ok (.ishl, 1) := by decide +kernel
theorem dX5_apply_238 : decode cX5_apply 238 = .ok (.iconst (-1), 1) := by decide +kernel
theorem dX5_apply_239 : decode cX5_apply 239 = .ok (.ixor, 1) := by decide +kernel
theorem dX5_apply_240 : decode cX5_apply 240 = .ok (.iand, 1) := by decide +kernel
theorem dX5_apply_241 : decode cX5_apply 241 = .ok (.iastore, 1) := by decide +kernel
theorem dX5_apply_242 : decode cX5_apply 242 = .ok (.aload_n 0, 1) := by decide +kernel
theorem dX5_apply_243 : decode cX5_apply 243 = .ok (.getfield 41, 3) := by decide +kernel
theorem dX5_apply_246 : decode cX5_apply 246 = .ok (.bipush 16, 2) := by decide +kernel
theorem dX5_apply_248 : decode cX5_apply 248 = .ok (.iload_n 1, 1) := by decide +kernel
theorem dX5_apply_249 : decode cX5_apply 249 = .ok (.imul, 1) := by decide +kernel
theorem dX5_apply_250 : decode cX5_apply 250 = .ok (.aload_n 0, 1) := by decide +kernel
theorem dX5_apply_251 : decode cX5_apply 251 = .ok (.getfield 16, 3) := by decide +kernel
theorem dX5_apply_254 : decode cX5_apply 254 = .ok (.iload_n 2, 1) := by decide +kernel
theorem dX5_apply_255 : decode cX5_apply 255 = .ok (.iaload, 1) := by decide +kernel
theorem dX5_apply_256 : decode cX5_apply 256 = .ok (.iadd, 1) := by decide +kernel
theorem dX5_apply_257 : decode cX5_apply 257 = .ok (.dup2, 1) := by decide +kernel
theorem dX5_apply_258 : decode cX5_apply 258 = .ok (.iaload, 1) := by decide +kernel
theorem dX5_apply_259 : decode cX5_apply 259 = .ok (.iconst 1, 1) := by decide +kernel
theorem dX5_apply_260 : decode cX5_apply 260 = .ok (.aload_n 0, 1) := by decide +kernel
theorem dX5_apply_261 : decode cX5_apply 261 = .ok (.getfield 13, 3) := by decide +kernel
theorem dX5_apply_264 : decode cX5_apply 264 = .ok (.iload_n 2, 1) := by decide +kernel
theorem dX5_apply_265 : decode cX5_apply 265 = .ok (.iaload, 1) := by decide +kernel
theorem dX5_apply_266 : decode cX5_apply 266 = .ok (.ishl, 1) := by decide +kernel
theorem dX5_apply_267 : decode cX5_apply 267 = .ok (.iconst (-1), 1) := by decide +kernel
theorem dX5_apply_268 : decode cX5_apply 268 = .ok (.ixor, 1) := by decide +kernel
theorem dX5_apply_269 : decode cX5_apply 269 = .ok (.iand, 1) := by decide +kernel
theorem dX5_apply_270 : decode cX5_apply 270 = .ok (.iastore, 1) := by decide +kernel
theorem dX5_apply_271 : decode cX5_apply 271 = .ok (.goto 26, 3) := by decide +kernel
theorem dX5_apply_274 : decode cX5_apply 274 = .ok (.aload_n 0, 1) := by decide +kernel
theorem dX5_apply_275 : decode cX5_apply 275 = .ok (.getfield 38, 3) := by decide +kernel
theorem dX5_apply_278 : decode cX5_apply 278 = .ok (.iload_n 3, 1) := by decide +kernel
theorem dX5_apply_279 : decode cX5_apply 279 = .ok (.aload_n 0, 1) := by decide +kernel
theorem dX5_apply_280 : decode cX5_apply 280 = .ok (.getfield 16, 3) := by decide +kernel
theorem dX5_apply_283 : decode cX5_apply 283 = .ok (.iload_n 2, 1) := by decide +kernel
theorem dX5_apply_284 : decode cX5_apply 284 = .ok (.iaload, 1) := by decide +kernel
theorem dX5_apply_285 : decode cX5_apply 285 = .ok (.iastore, 1) := by decide +kernel
theorem dX5_apply_286 : decode cX5_apply 286 = .ok (.goto 11, 3) := by decide +kernel
theorem dX5_apply_289 : decode cX5_apply 289 = .ok (.aload_n 0, 1) := by decide +kernel
theorem dX5_apply_290 : decode cX5_apply 290 = .ok (.getfield 38, 3) := by decide +kernel
theorem dX5_apply_293 : decode cX5_apply 293 = .ok (.iload_n 3, 1) := by decide +kernel
theorem dX5_apply_294 : decode cX5_apply 294 = .ok (.bipush (-2), 2) := by decide +kernel
theorem dX5_apply_296 : decode cX5_apply 296 = .ok (.iastore, 1) := by decide +kernel
theorem dX5_apply_297 : decode cX5_apply 297 = .ok (.return_, 1) := by decide +kernel
theorem dX5_makeFacts_0 : decode cX5_makeFacts 0 = .ok (.aload_n 0, 1) := by decide +kernel
theorem dX5_makeFacts_1 : decode cX5_makeFacts 1 = .ok (.iload_n 1, 1) := by decide +kernel
theorem dX5_makeFacts_2 : decode cX5_makeFacts 2 = .ok (.invokevirtual 86, 3) := by decide +kernel
theorem dX5_makeFacts_5 : decode cX5_makeFacts 5 = .ok (.iconst 0, 1) := by decide +kernel
theorem dX5_makeFacts_6 : decode cX5_makeFacts 6 = .ok (.istore_n 3, 1) := by decide +kernel
theorem dX5_makeFacts_7 : decode cX5_makeFacts 7 = .ok (.iload_n 3, 1) := by decide +kernel
theorem dX5_makeFacts_8 : decode cX5_makeFacts 8 = .ok (.iload_n 2, 1) := by decide +kernel
theorem dX5_makeFacts_9 : decode cX5_makeFacts 9 = .ok (.if_icmp .ge 15, 3) := by decide +kernel
theorem dX5_makeFacts_12 : decode cX5_makeFacts 12 = .ok (.aload_n 0, 1) := by decide +kernel
theorem dX5_makeFacts_13 : decode cX5_makeFacts 13 = .ok (.iload_n 1, 1) := by decide +kernel
theorem dX5_makeFacts_14 : decode cX5_makeFacts 14 = .ok (.iload_n 3, 1) := by decide +kernel
theorem dX5_makeFacts_15 : decode cX5_makeFacts 15 = .ok (.invokevirtual 94, 3) := by decide +kernel
theorem dX5_makeFacts_18 : decode cX5_makeFacts 18 = .ok (.iinc 3 1, 3) := by decide +kernel
theorem dX5_makeFacts_21 : decode cX5_makeFacts 21 = .ok (.goto (-14), 3) := by decide +kernel
theorem dX5_makeFacts_24 : decode cX5_makeFacts 24 = .ok (.return_, 1) := by decide +kernel
theorem dX5_add_0 : decode cX5_add 0 = .ok (.aload_n 0, 1) := by decide +kernel
theorem dX5_add_1 : decode cX5_add 1 = .ok (.getfield 97, 3) := by decide +kernel
theorem dX5_add_4 : decode cX5_add 4 = .ok (.bipush 120, 2) := by decide +kernel
theorem dX5_add_6 : decode cX5_add 6 = .ok (.if_icmp .ne 6, 3) := by decide +kernel
theorem dX5_add_9 : decode cX5_add 9 = .ok (.bipush (-4), 2) := by decide +kernel
theorem dX5_add_11 : decode cX5_add 11 = .ok (.ireturn, 1) := by decide +kernel
theorem dX5_add_12 : decode cX5_add 12 = .ok (.aload_n 0, 1) := by decide +kernel
theorem dX5_add_13 : decode cX5_add 13 = .ok (.getfield 7, 3) := by decide +kernel
theorem dX5_add_16 : decode cX5_add 16 = .ok (.aload_n 0, 1) := by decide +kernel
theorem dX5_add_17 : decode cX5_add 17 = .ok (.getfield 97, 3) := by decide +kernel
theorem dX5_add_20 : decode cX5_add 20 = .ok (.iload_n 1, 1) := by decide +kernel
theorem dX5_add_21 : decode cX5_add 21 = .ok (.iastore, 1) := by decide +kernel
theorem dX5_add_22 : decode cX5_add 22 = .ok (.aload_n 0, 1) := by decide +kernel
theorem dX5_add_23 : decode cX5_add 23 = .ok (.getfield 13, 3) := by decide +kernel
theorem dX5_add_26 : decode cX5_add 26 = .ok (.aload_n 0, 1) := by decide +kernel
theorem dX5_add_27 : decode cX5_add 27 = .ok (.getfield 97, 3) := by decide +kernel
theorem dX5_add_30 : decode cX5_add 30 = .ok (.iload_n 2, 1) := by decide +kernel
theorem dX5_add_31 : decode cX5_add 31 = .ok (.iastore, 1) := by decide +kernel
theorem dX5_add_32 : decode cX5_add 32 = .ok (.aload_n 0, 1) := by decide +kernel
theorem dX5_add_33 : decode cX5_add 33 = .ok (.getfield 16, 3) := by decide +kernel
theorem dX5_add_36 : decode cX5_add 36 = .ok (.aload_n 0, 1) := by decide +kernel
theorem dX5_add_37 : decode cX5_add 37 = .ok (.getfield 97, 3) := by decide +kernel
theorem dX5_add_40 : decode cX5_add 40 = .ok (.iload_n 3, 1) := by decide +kernel
theorem dX5_add_41 : decode cX5_add 41 = .ok (.iastore, 1) := by decide +kernel
theorem dX5_add_42 : decode cX5_add 42 = .ok (.aload_n 0, 1) := by decide +kernel
theorem dX5_add_43 : decode cX5_add 43 = .ok (.getfield 19, 3) := by decide +kernel
theorem dX5_add_46 : decode cX5_add 46 = .ok (.aload_n 0, 1) := by decide +kernel
theorem dX5_add_47 : decode cX5_add 47 = .ok (.getfield 97, 3) := by decide +kernel
theorem dX5_add_50 : decode cX5_add 50 = .ok (.iload 4, 2) := by decide +kernel
theorem dX5_add_52 : decode cX5_add 52 = .ok (.iastore, 1) := by decide +kernel
theorem dX5_add_53 : decode cX5_add 53 = .ok (.aload_n 0, 1) := by decide +kernel
theorem dX5_add_54 : decode cX5_add 54 = .ok (.getfield 22, 3) := by decide +kernel
theorem dX5_add_57 : decode cX5_add 57 = .ok (.aload_n 0, 1) := by decide +kernel
theorem dX5_add_58 : decode cX5_add 58 = .ok (.getfield 97, 3) := by decide +kernel
theorem dX5_add_61 : decode cX5_add 61 = .ok (.iload 5, 2) := by decide +kernel
theorem dX5_add_63 : decode cX5_add 63 = .ok (.iastore, 1) := by decide +kernel
theorem dX5_add_64 : decode cX5_add 64 = .ok (.aload_n 0, 1) := by decide +kernel
theorem dX5_add_65 : decode cX5_add 65 = .ok (.dup, 1) := by decide +kernel
theorem dX5_add_66 : decode cX5_add 66 = .ok (.getfield 97, 3) := by decide +kernel
theorem dX5_add_69 : decode cX5_add 69 = .ok (.iconst 1, 1) := by decide +kernel
theorem dX5_add_70 : decode cX5_add 70 = .ok (.iadd, 1) := by decide +kernel
theorem dX5_add_71 : decode cX5_add 71 = .ok (.putfield 97, 3) := by decide +kernel
theorem dX5_add_74 : decode cX5_add 74 = .ok (.aload_n 0, 1) := by decide +kernel
theorem dX5_add_75 : decode cX5_add 75 = .ok (.iconst 4, 1) := by decide +kernel
theorem dX5_add_76 : decode cX5_add 76 = .ok (.aload_n 0, 1) := by decide +kernel
theorem dX5_add_77 : decode cX5_add 77 = .ok (.getfield 97, 3) := by decide +kernel
theorem dX5_add_80 : decode cX5_add 80 = .ok (.iconst 1, 1) := by decide +kernel
theorem dX5_add_81 : decode cX5_add 81 = .ok (.isub, 1) := by decide +kernel
theorem dX5_add_82 : decode cX5_add 82 = .ok (.invokevirtual 94, 3) := by decide +kernel
theorem dX5_add_85 : decode cX5_add 85 = .ok (.aload_n 0, 1) := by decide +kernel
theorem dX5_add_86 : decode cX5_add 86 = .ok (.getfield 97, 3) := by decide +kernel
theorem dX5_add_89 : decode cX5_add 89 = .ok (.ireturn, 1) := by decide +kernel
theorem dX5_isJob_0 : decode cX5_isJob 0 = .ok (.iload_n 1, 1) := by decide +kernel
theorem dX5_isJob_1 : decode cX5_isJob 1 = .ok (.iconst 0, 1) := by decide +kernel
theorem dX5_isJob_2 : decode cX5_isJob 2 = .ok (.bipush 15, 2) := by decide +kernel
theorem dX5_isJob_4 : decode cX5_isJob 4 = .ok (.invokestatic 101, 3) := by decide +kernel
theorem dX5_isJob_7 : decode cX5_isJob 7 = .ok (.ifCond .eq 19, 3) := by decide +kernel
theorem dX5_isJob_10 : decode cX5_isJob 10 = .ok (.aload_n 0, 1) := by decide +kernel
theorem dX5_isJob_11 : decode cX5_isJob 11 = .ok (.getfield 25, 3) := by decide +kernel
theorem dX5_isJob_14 : decode cX5_isJob 14 = .ok (.bipush 64, 2) := by decide +kernel
theorem dX5_isJob_16 : decode cX5_isJob 16 = .ok (.iload_n 1, 1) := by decide +kernel
theorem dX5_isJob_17 : decode cX5_isJob 17 = .ok (.iadd, 1) := by decide +kernel
theorem dX5_isJob_18 : decode cX5_isJob 18 = .ok (.baload, 1) := by decide +kernel
theorem dX5_isJob_19 : decode cX5_isJob 19 = .ok (.ifCond .eq 7, 3) := by decide +kernel
theorem dX5_isJob_22 : decode cX5_isJob 22 = .ok (.iconst 1, 1) := by decide +kernel
theorem dX5_isJob_23 : decode cX5_isJob 23 = .ok (.goto 4, 3) := by decide +kernel
theorem dX5_isJob_26 : decode cX5_isJob 26 = .ok (.iconst 0, 1) := by decide +kernel
theorem dX5_isJob_27 : decode cX5_isJob 27 = .ok (.ireturn, 1) := by decide +kernel
theorem dX5_isTold_0 : decode cX5_isTold 0 = .ok (.iload_n 0, 1) := by decide +kernel
theorem dX5_isTold_1 : decode cX5_isTold 1 = .ok (.iconst 1, 1) := by decide +kernel
theorem dX5_isTold_2 : decode cX5_isTold 2 = .ok (.bipush 100, 2) := by decide +kernel
theorem dX5_isTold_4 : decode cX5_isTold 4 = .ok (.invokestatic 101, 3) := by decide +kernel
theorem dX5_isTold_7 : decode cX5_isTold 7 = .ok (.ifCond .eq 26, 3) := by decide +kernel
theorem dX5_isTold_10 : decode cX5_isTold 10 = .ok (.iload_n 1, 1) := by decide +kernel
theorem dX5_isTold_11 : decode cX5_isTold 11 = .ok (.iconst 0, 1) := by decide +kernel
theorem dX5_isTold_12 : decode cX5_isTold 12 = .ok (.bipush 50, 2) := by decide +kernel
theorem dX5_isTold_14 : decode cX5_isTold 14 = .ok (.invokestatic 101, 3) := by decide +kernel
theorem dX5_isTold_17 : decode cX5_isTold 17 = .ok (.ifCond .eq 16, 3) := by decide +kernel
theorem dX5_isTold_20 : decode cX5_isTold 20 = .ok (.iload_n 2, 1) := by decide +kernel
theorem dX5_isTold_21 : decode cX5_isTold 21 = .ok (.iconst 0, 1) := by decide +kernel
theorem dX5_isTold_22 : decode cX5_isTold 22 = .ok (.iconst 5, 1) := by decide +kernel
theorem dX5_isTold_23 : decode cX5_isTold 23 = .ok (.invokestatic 101, 3) := by decide +kernel
theorem dX5_isTold_26 : decode cX5_isTold 26 = .ok (.ifCond .eq 7, 3) := by decide +kernel
theorem dX5_isTold_29 : decode cX5_isTold 29 = .ok (.iconst 1, 1) := by decide +kernel
theorem dX5_isTold_30 : decode cX5_isTold 30 = .ok (.goto 4, 3) := by decide +kernel
theorem dX5_isTold_33 : decode cX5_isTold 33 = .ok (.iconst 0, 1) := by decide +kernel
theorem dX5_isTold_34 : decode cX5_isTold 34 = .ok (.ireturn, 1) := by decide +kernel
theorem dX5_come_0 : decode cX5_come 0 = .ok (.iload_n 1, 1) := by decide +kernel
theorem dX5_come_1 : decode cX5_come 1 = .ok (.iload_n 2, 1) := by decide +kernel
theorem dX5_come_2 : decode cX5_come 2 = .ok (.iload_n 3, 1) := by decide +kernel
theorem dX5_come_3 : decode cX5_come 3 = .ok (.invokestatic 105, 3) := by decide +kernel
theorem dX5_come_6 : decode cX5_come 6 = .ok (.ifCond .ne 6, 3) := by decide +kernel
theorem dX5_come_9 : decode cX5_come 9 = .ok (.bipush (-2), 2) := by decide +kernel
theorem dX5_come_11 : decode cX5_come 11 = .ok (.ireturn, 1) := by decide +kernel
theorem dX5_come_12 : decode cX5_come 12 = .ok (.aload_n 0, 1) := by decide +kernel
theorem dX5_come_13 : decode cX5_come 13 = .ok (.getfield 108, 3) := by decide +kernel
theorem dX5_come_16 : decode cX5_come 16 = .ok (.bipush 16, 2) := by decide +kernel
theorem dX5_come_18 : decode cX5_come 18 = .ok (.if_icmp .ne 6, 3) := by decide +kernel
theorem dX5_come_21 : decode cX5_come 21 = .ok (.bipush (-3), 2) := by decide +kernel
theorem dX5_come_23 : decode cX5_come 23 = .ok (.ireturn, 1) := by decide +kernel
theorem dX5_come_24 : decode cX5_come 24 = .ok (.aload_n 0, 1) := by decide +kernel
theorem dX5_come_25 : decode cX5_come 25 = .ok (.iconst 0, 1) := by decide +kernel
theorem dX5_come_26 : decode cX5_come 26 = .ok (.aload_n 0, 1) := by decide +kernel
theorem dX5_come_27 : decode cX5_come 27 = .ok (.getfield 108, 3) := by decide +kernel
theorem dX5_come_30 : decode cX5_come 30 = .ok (.iload_n 1, 1) := by decide +kernel
theorem dX5_come_31 : decode cX5_come 31 = .ok (.iload_n 2, 1) := by decide +kernel
theorem dX5_come_32 : decode cX5_come 32 = .ok (.iload_n 3, 1) := by decide +kernel
theorem dX5_come_33 : decode cX5_come 33 = .ok (.invokevirtual 111, 3) := by decide +kernel
theorem dX5_come_36 : decode cX5_come 36 = .ok (.istore 4, 2) := by decide +kernel
theorem dX5_come_38 : decode cX5_come 38 = .ok (.aload_n 0, 1) := by decide +kernel
theorem dX5_come_39 : decode cX5_come 39 = .ok (.dup, 1) := by decide +kernel
theorem dX5_come_40 : decode cX5_come 40 = .ok (.getfield 108, 3) := by decide +kernel
theorem dX5_come_43 : decode cX5_come 43 = .ok (.iload 4, 2) := by decide +kernel
theorem dX5_come_45 : decode cX5_come 45 = .ok (.bipush (-4), 2) := by decide +kernel
theorem dX5_come_47 : decode cX5_come 47 = .ok (.if_icmp .ne 7, 3) := by decide +kernel
theorem dX5_come_50 : decode cX5_come 50 = .ok (.iconst 0, 1) := by decide +kernel
theorem dX5_come_51 : decode cX5_come 51 = .ok (.goto 4, 3) := by decide +kernel
theorem dX5_come_54 : decode cX5_come 54 = .ok (.iconst 1, 1) := by decide +kernel
theorem dX5_come_55 : decode cX5_come 55 = .ok (.iadd, 1) := by decide +kernel
theorem dX5_come_56 : decode cX5_come 56 = .ok (.putfield 108, 3) := by decide +kernel
theorem dX5_come_59 : decode cX5_come 59 = .ok (.iload 4, 2) := by decide +kernel
theorem dX5_come_61 : decode cX5_come 61 = .ok (.ireturn, 1) := by decide +kernel
theorem dX5_go_0 : decode cX5_go 0 = .ok (.aload_n 0, 1) := by decide +kernel
theorem dX5_go_1 : decode cX5_go 1 = .ok (.iload_n 1, 1) := by decide +kernel
theorem dX5_go_2 : decode cX5_go 2 = .ok (.invokevirtual 115, 3) := by decide +kernel
theorem dX5_go_5 : decode cX5_go 5 = .ok (.ifCond .eq 15, 3) := by decide +kernel
theorem dX5_go_8 : decode cX5_go 8 = .ok (.aload_n 0, 1) := by decide +kernel
theorem dX5_go_9 : decode cX5_go 9 = .ok (.iconst 1, 1) := by decide +kernel
theorem dX5_go_10 : decode cX5_go 10 = .ok (.iload_n 1, 1) := by decide +kernel
theorem dX5_go_11 : decode cX5_go 11 = .ok (.iconst 0, 1) := by decide +kernel
theorem dX5_go_12 : decode cX5_go 12 = .ok (.iconst 0, 1) := by decide +kernel
theorem dX5_go_13 : decode cX5_go 13 = .ok (.iconst 0, 1) := by decide +kernel
theorem dX5_go_14 : decode cX5_go 14 = .ok (.invokevirtual 111, 3) := by decide +kernel
theorem dX5_go_17 : decode cX5_go 17 = .ok (.goto 5, 3) := by decide +kernel
theorem dX5_go_20 : decode cX5_go 20 = .ok (.bipush (-2), 2) := by decide +kernel
theorem dX5_go_22 : decode cX5_go 22 = .ok (.ireturn, 1) := by decide +kernel
theorem dX5_turn_0 : decode cX5_turn 0 = .ok (.aload_n 0, 1) := by decide +kernel
theorem dX5_turn_1 : decode cX5_turn 1 = .ok (.iload_n 1, 1) := by decide +kernel
theorem dX5_turn_2 : decode cX5_turn 2 = .ok (.invokevirtual 115, 3) := by decide +kernel
theorem dX5_turn_5 : decode cX5_turn 5 = .ok (.ifCond .eq 26, 3) := by decide +kernel
theorem dX5_turn_8 : decode cX5_turn 8 = .ok (.iload_n 2, 1) := by decide +kernel
theorem dX5_turn_9 : decode cX5_turn 9 = .ok (.iload_n 3, 1) := by decide +kernel
theorem dX5_turn_10 : decode cX5_turn 10 = .ok (.iload 4, 2) := by decide +kernel
theorem dX5_turn_12 : decode cX5_turn 12 = .ok (.invokestatic 105, 3) := by decide +kernel
theorem dX5_turn_15 : decode cX5_turn 15 = .ok (.ifCond .eq 16, 3) := by decide +kernel
theorem dX5_turn_18 : decode cX5_turn 18 = .ok (.aload_n 0, 1) := by decide +kernel
theorem dX5_turn_19 : decode cX5_turn 19 = .ok (.iconst 2, 1) := by decide +kernel
theorem dX5_turn_20 : decode cX5_turn 20 = .ok (.iload_n 1, 1) := by decide +kernel
theorem dX5_turn_21 : decode cX5_turn 21 = .ok (.iload_n 2, 1) := by decide +kernel
end
section
theorem dX5_turn_22 : decode cX5_turn 22 = .ok (.iload_n 3, 1) := by decide +kernel
theorem dX5_turn_23 : decode cX5_turn 23 = .ok (.iload 4, 2) := by decide +kernel
theorem dX5_turn_25 : decode cX5_turn 25 = .ok (.invokevirtual 111, 3) := by decide +kernel
theorem dX5_turn_28 : decode cX5_turn 28 = .ok (.goto 5, 3) := by decide +kernel
theorem dX5_turn_31 : decode cX5_turn 31 = .ok (.bipush (-2), 2) := by decide +kernel
theorem dX5_turn_33 : decode cX5_turn 33 = .ok (.ireturn, 1) := by decide +kernel
theorem dX5_size_0 : decode cX5_size 0 = .ok (.iload_n 1, 1) := by decide +kernel
theorem dX5_size_1 : decode cX5_size 1 = .ok (.iconst 0, 1) := by decide +kernel
theorem dX5_size_2 : decode cX5_size 2 = .ok (.iconst 5, 1) := by decide +kernel
theorem dX5_size_3 : decode cX5_size 3 = .ok (.invokestatic 101, 3) := by decide +kernel
theorem dX5_size_6 : decode cX5_size 6 = .ok (.ifCond .eq 26, 3) := by decide +kernel
theorem dX5_size_9 : decode cX5_size 9 = .ok (.iload_n 2, 1) := by decide +kernel
theorem dX5_size_10 : decode cX5_size 10 = .ok (.iconst 0, 1) := by decide +kernel
theorem dX5_size_11 : decode cX5_size 11 = .ok (.sipush 400, 3) := by decide +kernel
theorem dX5_size_14 : decode cX5_size 14 = .ok (.invokestatic 101, 3) := by decide +kernel
theorem dX5_size_17 : decode cX5_size 17 = .ok (.ifCond .eq 15, 3) := by decide +kernel
theorem dX5_size_20 : decode cX5_size 20 = .ok (.aload_n 0, 1) := by decide +kernel
theorem dX5_size_21 : decode cX5_size 21 = .ok (.iconst 3, 1) := by decide +kernel
theorem dX5_size_22 : decode cX5_size 22 = .ok (.iload_n 1, 1) := by decide +kernel
theorem dX5_size_23 : decode cX5_size 23 = .ok (.iload_n 2, 1) := by decide +kernel
theorem dX5_size_24 : decode cX5_size 24 = .ok (.iconst 0, 1) := by decide +kernel
theorem dX5_size_25 : decode cX5_size 25 = .ok (.iconst 0, 1) := by decide +kernel
theorem dX5_size_26 : decode cX5_size 26 = .ok (.invokevirtual 111, 3) := by decide +kernel
theorem dX5_size_29 : decode cX5_size 29 = .ok (.goto 5, 3) := by decide +kernel
theorem dX5_size_32 : decode cX5_size 32 = .ok (.bipush (-2), 2) := by decide +kernel
theorem dX5_size_34 : decode cX5_size 34 = .ok (.ireturn, 1) := by decide +kernel
theorem dX5_apart_0 : decode cX5_apart 0 = .ok (.aload_n 0, 1) := by decide +kernel
theorem dX5_apart_1 : decode cX5_apart 1 = .ok (.iload_n 1, 1) := by decide +kernel
theorem dX5_apart_2 : decode cX5_apart 2 = .ok (.invokevirtual 115, 3) := by decide +kernel
theorem dX5_apart_5 : decode cX5_apart 5 = .ok (.ifCond .eq 16, 3) := by decide +kernel
theorem dX5_apart_8 : decode cX5_apart 8 = .ok (.aload_n 0, 1) := by decide +kernel
theorem dX5_apart_9 : decode cX5_apart 9 = .ok (.iload_n 2, 1) := by decide +kernel
theorem dX5_apart_10 : decode cX5_apart 10 = .ok (.invokevirtual 115, 3) := by decide +kernel
theorem dX5_apart_13 : decode cX5_apart 13 = .ok (.ifCond .eq 8, 3) := by decide +kernel
theorem dX5_apart_16 : decode cX5_apart 16 = .ok (.iload_n 1, 1) := by decide +kernel
theorem dX5_apart_17 : decode cX5_apart 17 = .ok (.iload_n 2, 1) := by decide +kernel
theorem dX5_apart_18 : decode cX5_apart 18 = .ok (.if_icmp .ne 6, 3) := by decide +kernel
theorem dX5_apart_21 : decode cX5_apart 21 = .ok (.bipush (-2), 2) := by decide +kernel
theorem dX5_apart_23 : decode cX5_apart 23 = .ok (.ireturn, 1) := by decide +kernel
theorem dX5_apart_24 : decode cX5_apart 24 = .ok (.aload_n 0, 1) := by decide +kernel
theorem dX5_apart_25 : decode cX5_apart 25 = .ok (.getfield 41, 3) := by decide +kernel
theorem dX5_apart_28 : decode cX5_apart 28 = .ok (.bipush 64, 2) := by decide +kernel
theorem dX5_apart_30 : decode cX5_apart 30 = .ok (.iload_n 1, 1) := by decide +kernel
theorem dX5_apart_31 : decode cX5_apart 31 = .ok (.iadd, 1) := by decide +kernel
theorem dX5_apart_32 : decode cX5_apart 32 = .ok (.iaload, 1) := by decide +kernel
theorem dX5_apart_33 : decode cX5_apart 33 = .ok (.iload_n 2, 1) := by decide +kernel
theorem dX5_apart_34 : decode cX5_apart 34 = .ok (.ishr, 1) := by decide +kernel
theorem dX5_apart_35 : decode cX5_apart 35 = .ok (.iconst 1, 1) := by decide +kernel
theorem dX5_apart_36 : decode cX5_apart 36 = .ok (.iand, 1) := by decide +kernel
theorem dX5_apart_37 : decode cX5_apart 37 = .ok (.iconst 1, 1) := by decide +kernel
theorem dX5_apart_38 : decode cX5_apart 38 = .ok (.if_icmp .ne 7, 3) := by decide +kernel
theorem dX5_apart_41 : decode cX5_apart 41 = .ok (.iconst 1, 1) := by decide +kernel
theorem dX5_apart_42 : decode cX5_apart 42 = .ok (.goto 4, 3) := by decide +kernel
theorem dX5_apart_45 : decode cX5_apart 45 = .ok (.iconst 0, 1) := by decide +kernel
theorem dX5_apart_46 : decode cX5_apart 46 = .ok (.istore 4, 2) := by decide +kernel
theorem dX5_apart_48 : decode cX5_apart 48 = .ok (.iload 4, 2) := by decide +kernel
theorem dX5_apart_50 : decode cX5_apart 50 = .ok (.iload_n 3, 1) := by decide +kernel
theorem dX5_apart_51 : decode cX5_apart 51 = .ok (.if_icmp .ne 8, 3) := by decide +kernel
theorem dX5_apart_54 : decode cX5_apart 54 = .ok (.bipush (-3), 2) := by decide +kernel
theorem dX5_apart_56 : decode cX5_apart 56 = .ok (.goto 20, 3) := by decide +kernel
theorem dX5_apart_59 : decode cX5_apart 59 = .ok (.aload_n 0, 1) := by decide +kernel
theorem dX5_apart_60 : decode cX5_apart 60 = .ok (.iload_n 3, 1) := by decide +kernel
theorem dX5_apart_61 : decode cX5_apart 61 = .ok (.ifCond .eq 7, 3) := by decide +kernel
theorem dX5_apart_64 : decode cX5_apart 64 = .ok (.iconst 4, 1) := by decide +kernel
theorem dX5_apart_65 : decode cX5_apart 65 = .ok (.goto 4, 3) := by decide +kernel
theorem dX5_apart_68 : decode cX5_apart 68 = .ok (.iconst 5, 1) := by decide +kernel
theorem dX5_apart_69 : decode cX5_apart 69 = .ok (.iload_n 1, 1) := by decide +kernel
theorem dX5_apart_70 : decode cX5_apart 70 = .ok (.iload_n 2, 1) := by decide +kernel
theorem dX5_apart_71 : decode cX5_apart 71 = .ok (.iconst 0, 1) := by decide +kernel
theorem dX5_apart_72 : decode cX5_apart 72 = .ok (.iconst 0, 1) := by decide +kernel
theorem dX5_apart_73 : decode cX5_apart 73 = .ok (.invokevirtual 111, 3) := by decide +kernel
theorem dX5_apart_76 : decode cX5_apart 76 = .ok (.ireturn, 1) := by decide +kernel
theorem dX5_lock_0 : decode cX5_lock 0 = .ok (.aload_n 0, 1) := by decide +kernel
theorem dX5_lock_1 : decode cX5_lock 1 = .ok (.iload_n 1, 1) := by decide +kernel
theorem dX5_lock_2 : decode cX5_lock 2 = .ok (.invokevirtual 115, 3) := by decide +kernel
theorem dX5_lock_5 : decode cX5_lock 5 = .ok (.ifCond .eq 25, 3) := by decide +kernel
theorem dX5_lock_8 : decode cX5_lock 8 = .ok (.iload_n 2, 1) := by decide +kernel
theorem dX5_lock_9 : decode cX5_lock 9 = .ok (.iconst (-1), 1) := by decide +kernel
theorem dX5_lock_10 : decode cX5_lock 10 = .ok (.iconst 5, 1) := by decide +kernel
theorem dX5_lock_11 : decode cX5_lock 11 = .ok (.invokestatic 101, 3) := by decide +kernel
theorem dX5_lock_14 : decode cX5_lock 14 = .ok (.ifCond .eq 16, 3) := by decide +kernel
theorem dX5_lock_17 : decode cX5_lock 17 = .ok (.aload_n 0, 1) := by decide +kernel
theorem dX5_lock_18 : decode cX5_lock 18 = .ok (.bipush 6, 2) := by decide +kernel
theorem dX5_lock_20 : decode cX5_lock 20 = .ok (.iload_n 1, 1) := by decide +kernel
theorem dX5_lock_21 : decode cX5_lock 21 = .ok (.iload_n 2, 1) := by decide +kernel
theorem dX5_lock_22 : decode cX5_lock 22 = .ok (.iconst 0, 1) := by decide +kernel
theorem dX5_lock_23 : decode cX5_lock 23 = .ok (.iconst 0, 1) := by decide +kernel
theorem dX5_lock_24 : decode cX5_lock 24 = .ok (.invokevirtual 111, 3) := by decide +kernel
theorem dX5_lock_27 : decode cX5_lock 27 = .ok (.goto 5, 3) := by decide +kernel
theorem dX5_lock_30 : decode cX5_lock 30 = .ok (.bipush (-2), 2) := by decide +kernel
theorem dX5_lock_32 : decode cX5_lock 32 = .ok (.ireturn, 1) := by decide +kernel
theorem dX5_free_0 : decode cX5_free 0 = .ok (.aload_n 0, 1) := by decide +kernel
theorem dX5_free_1 : decode cX5_free 1 = .ok (.iload_n 1, 1) := by decide +kernel
theorem dX5_free_2 : decode cX5_free 2 = .ok (.invokevirtual 115, 3) := by decide +kernel
theorem dX5_free_5 : decode cX5_free 5 = .ok (.ifCond .ne 6, 3) := by decide +kernel
theorem dX5_free_8 : decode cX5_free 8 = .ok (.bipush (-2), 2) := by decide +kernel
theorem dX5_free_10 : decode cX5_free 10 = .ok (.ireturn, 1) := by decide +kernel
theorem dX5_free_11 : decode cX5_free 11 = .ok (.aload_n 0, 1) := by decide +kernel
theorem dX5_free_12 : decode cX5_free 12 = .ok (.getfield 38, 3) := by decide +kernel
theorem dX5_free_15 : decode cX5_free 15 = .ok (.bipush 64, 2) := by decide +kernel
theorem dX5_free_17 : decode cX5_free 17 = .ok (.iload_n 1, 1) := by decide +kernel
theorem dX5_free_18 : decode cX5_free 18 = .ok (.iadd, 1) := by decide +kernel
theorem dX5_free_19 : decode cX5_free 19 = .ok (.iaload, 1) := by decide +kernel
theorem dX5_free_20 : decode cX5_free 20 = .ok (.bipush (-2), 2) := by decide +kernel
theorem dX5_free_22 : decode cX5_free 22 = .ok (.if_icmp .ne 8, 3) := by decide +kernel
theorem dX5_free_25 : decode cX5_free 25 = .ok (.bipush (-3), 2) := by decide +kernel
theorem dX5_free_27 : decode cX5_free 27 = .ok (.goto 13, 3) := by decide +kernel
theorem dX5_free_30 : decode cX5_free 30 = .ok (.aload_n 0, 1) := by decide +kernel
theorem dX5_free_31 : decode cX5_free 31 = .ok (.bipush 7, 2) := by decide +kernel
theorem dX5_free_33 : decode cX5_free 33 = .ok (.iload_n 1, 1) := by decide +kernel
theorem dX5_free_34 : decode cX5_free 34 = .ok (.iconst 0, 1) := by decide +kernel
theorem dX5_free_35 : decode cX5_free 35 = .ok (.iconst 0, 1) := by decide +kernel
theorem dX5_free_36 : decode cX5_free 36 = .ok (.iconst 0, 1) := by decide +kernel
theorem dX5_free_37 : decode cX5_free 37 = .ok (.invokevirtual 111, 3) := by decide +kernel
theorem dX5_free_40 : decode cX5_free 40 = .ok (.ireturn, 1) := by decide +kernel
theorem dX5_judge_0 : decode cX5_judge 0 = .ok (.aload_n 0, 1) := by decide +kernel
theorem dX5_judge_1 : decode cX5_judge 1 = .ok (.iconst 0, 1) := by decide +kernel
theorem dX5_judge_2 : decode cX5_judge 2 = .ok (.putfield 119, 3) := by decide +kernel
theorem dX5_judge_5 : decode cX5_judge 5 = .ok (.aload_n 0, 1) := by decide +kernel
theorem dX5_judge_6 : decode cX5_judge 6 = .ok (.iconst 0, 1) := by decide +kernel
theorem dX5_judge_7 : decode cX5_judge 7 = .ok (.putfield 122, 3) := by decide +kernel
theorem dX5_judge_10 : decode cX5_judge 10 = .ok (.iconst 0, 1) := by decide +kernel
theorem dX5_judge_11 : decode cX5_judge 11 = .ok (.istore 4, 2) := by decide +kernel
theorem dX5_judge_13 : decode cX5_judge 13 = .ok (.iload 4, 2) := by decide +kernel
theorem dX5_judge_15 : decode cX5_judge 15 = .ok (.bipush 6, 2) := by decide +kernel
theorem dX5_judge_17 : decode cX5_judge 17 = .ok (.if_icmp .ge 122, 3) := by decide +kernel
theorem dX5_judge_20 : decode cX5_judge 20 = .ok (.iconst 0, 1) := by decide +kernel
theorem dX5_judge_21 : decode cX5_judge 21 = .ok (.istore 5, 2) := by decide +kernel
theorem dX5_judge_23 : decode cX5_judge 23 = .ok (.iconst 0, 1) := by decide +kernel
theorem dX5_judge_24 : decode cX5_judge 24 = .ok (.istore 6, 2) := by decide +kernel
theorem dX5_judge_26 : decode cX5_judge 26 = .ok (.iload 6, 2) := by decide +kernel
theorem dX5_judge_28 : decode cX5_judge 28 = .ok (.bipush 16, 2) := by decide +kernel
theorem dX5_judge_30 : decode cX5_judge 30 = .ok (.if_icmp .ge 58, 3) := by decide +kernel
theorem dX5_judge_33 : decode cX5_judge 33 = .ok (.iload 5, 2) := by decide +kernel
theorem dX5_judge_35 : decode cX5_judge 35 = .ok (.aload_n 0, 1) := by decide +kernel
theorem dX5_judge_36 : decode cX5_judge 36 = .ok (.getfield 25, 3) := by decide +kernel
theorem dX5_judge_39 : decode cX5_judge 39 = .ok (.bipush 16, 2) := by decide +kernel
theorem dX5_judge_41 : decode cX5_judge 41 = .ok (.iload_n 2, 1) := by decide +kernel
theorem dX5_judge_42 : decode cX5_judge 42 = .ok (.imul, 1) := by decide +kernel
theorem dX5_judge_43 : decode cX5_judge 43 = .ok (.iload 6, 2) := by decide +kernel
theorem dX5_judge_45 : decode cX5_judge 45 = .ok (.iadd, 1) := by decide +kernel
theorem dX5_judge_46 : decode cX5_judge 46 = .ok (.baload, 1) := by decide +kernel
theorem dX5_judge_47 : decode cX5_judge 47 = .ok (.ifCond .eq 31, 3) := by decide +kernel
theorem dX5_judge_50 : decode cX5_judge 50 = .ok (.aload_n 0, 1) := by decide +kernel
theorem dX5_judge_51 : decode cX5_judge 51 = .ok (.iload_n 1, 1) := by decide +kernel
theorem dX5_judge_52 : decode cX5_judge 52 = .ok (.iload 6, 2) := by decide +kernel
theorem dX5_judge_54 : decode cX5_judge 54 = .ok (.iload_n 3, 1) := by decide +kernel
theorem dX5_judge_55 : decode cX5_judge 55 = .ok (.invokevirtual 125, 3) := by decide +kernel
theorem dX5_judge_58 : decode cX5_judge 58 = .ok (.iload 4, 2) := by decide +kernel
theorem dX5_judge_60 : decode cX5_judge 60 = .ok (.if_icmp .ne 18, 3) := by decide +kernel
theorem dX5_judge_63 : decode cX5_judge 63 = .ok (.aload_n 0, 1) := by decide +kernel
theorem dX5_judge_64 : decode cX5_judge 64 = .ok (.getfield 29, 3) := by decide +kernel
theorem dX5_judge_67 : decode cX5_judge 67 = .ok (.bipush 16, 2) := by decide +kernel
theorem dX5_judge_69 : decode cX5_judge 69 = .ok (.iload_n 2, 1) := by decide +kernel
theorem dX5_judge_70 : decode cX5_judge 70 = .ok (.imul, 1) := by decide +kernel
theorem dX5_judge_71 : decode cX5_judge 71 = .ok (.iload 6, 2) := by decide +kernel
theorem dX5_judge_73 : decode cX5_judge 73 = .ok (.iadd, 1) := by decide +kernel
theorem dX5_judge_74 : decode cX5_judge 74 = .ok (.iaload, 1) := by decide +kernel
theorem dX5_judge_75 : decode cX5_judge 75 = .ok (.goto 4, 3) := by decide +kernel
theorem dX5_judge_78 : decode cX5_judge 78 = .ok (.iconst 0, 1) := by decide +kernel
theorem dX5_judge_79 : decode cX5_judge 79 = .ok (.iadd, 1) := by decide +kernel
theorem dX5_judge_80 : decode cX5_judge 80 = .ok (.istore 5, 2) := by decide +kernel
theorem dX5_judge_82 : decode cX5_judge 82 = .ok (.iinc 6 1, 3) := by decide +kernel
theorem dX5_judge_85 : decode cX5_judge 85 = .ok (.goto (-59), 3) := by decide +kernel
theorem dX5_judge_88 : decode cX5_judge 88 = .ok (.aload_n 0, 1) := by decide +kernel
theorem dX5_judge_89 : decode cX5_judge 89 = .ok (.dup, 1) := by decide +kernel
theorem dX5_judge_90 : decode cX5_judge 90 = .ok (.getfield 119, 3) := by decide +kernel
theorem dX5_judge_93 : decode cX5_judge 93 = .ok (.iload 5, 2) := by decide +kernel
theorem dX5_judge_95 : decode cX5_judge 95 = .ok (.aload_n 0, 1) := by decide +kernel
theorem dX5_judge_96 : decode cX5_judge 96 = .ok (.getfield 44, 3) := by decide +kernel
theorem dX5_judge_99 : decode cX5_judge 99 = .ok (.bipush 6, 2) := by decide +kernel
theorem dX5_judge_101 : decode cX5_judge 101 = .ok (.iload_n 2, 1) := by decide +kernel
theorem dX5_judge_102 : decode cX5_judge 102 = .ok (.imul, 1) := by decide +kernel
theorem dX5_judge_103 : decode cX5_judge 103 = .ok (.iload 4, 2) := by decide +kernel
theorem dX5_judge_105 : decode cX5_judge 105 = .ok (.iadd, 1) := by decide +kernel
theorem dX5_judge_106 : decode cX5_judge 106 = .ok (.iaload, 1) := by decide +kernel
theorem dX5_judge_107 : decode cX5_judge 107 = .ok (.if_icmp .le 21, 3) := by decide +kernel
theorem dX5_judge_110 : decode cX5_judge 110 = .ok (.iload 5, 2) := by decide +kernel
theorem dX5_judge_112 : decode cX5_judge 112 = .ok (.aload_n 0, 1) := by decide +kernel
theorem dX5_judge_113 : decode cX5_judge 113 = .ok (.getfield 44, 3) := by decide +kernel
theorem dX5_judge_116 : decode cX5_judge 116 = .ok (.bipush 6, 2) := by decide +kernel
theorem dX5_judge_118 : decode cX5_judge 118 = .ok (.iload_n 2, 1) := by decide +kernel
theorem dX5_judge_119 : decode cX5_judge 119 = .ok (.imul, 1) := by decide +kernel
theorem dX5_judge_120 : decode cX5_judge 120 = .ok (.iload 4, 2) := by decide +kernel
theorem dX5_judge_122 : decode cX5_judge 122 = .ok (.iadd, 1) := by decide +kernel
theorem dX5_judge_123 : decode cX5_judge 123 = .ok (.iaload, 1) := by decide +kernel
theorem dX5_judge_124 : decode cX5_judge 124 = .ok (.isub, 1) := by decide +kernel
theorem dX5_judge_125 : decode cX5_judge 125 = .ok (.goto 4, 3) := by decide +kernel
theorem dX5_judge_128 : decode cX5_judge 128 = .ok (.iconst 0, 1) := by decide +kernel
theorem dX5_judge_129 : decode cX5_judge 129 = .ok (.iadd, 1) := by decide +kernel
theorem dX5_judge_130 : decode cX5_judge 130 = .ok (.putfield 119, 3) := by decide +kernel
theorem dX5_judge_133 : decode cX5_judge 133 = .ok (.iinc 4 1, 3) := by decide +kernel
theorem dX5_judge_136 : decode cX5_judge 136 = .ok (.goto (-123), 3) := by decide +kernel
theorem dX5_judge_139 : decode cX5_judge 139 = .ok (.iconst 0, 1) := by decide +kernel
theorem dX5_judge_140 : decode cX5_judge 140 = .ok (.istore 4, 2) := by decide +kernel
theorem dX5_judge_142 : decode cX5_judge 142 = .ok (.iload 4, 2) := by decide +kernel
theorem dX5_judge_144 : decode cX5_judge 144 = .ok (.bipush 16, 2) := by decide +kernel
theorem dX5_judge_146 : decode cX5_judge 146 = .ok (.if_icmp .ge 213, 3) := by decide +kernel
theorem dX5_judge_149 : decode cX5_judge 149 = .ok (.aload_n 0, 1) := by decide +kernel
theorem dX5_judge_150 : decode cX5_judge 150 = .ok (.getfield 25, 3) := by decide +kernel
theorem dX5_judge_153 : decode cX5_judge 153 = .ok (.bipush 16, 2) := by decide +kernel
theorem dX5_judge_155 : decode cX5_judge 155 = .ok (.iload_n 2, 1) := by decide +kernel
theorem dX5_judge_156 : decode cX5_judge 156 = .ok (.imul, 1) := by decide +kernel
theorem dX5_judge_157 : decode cX5_judge 157 = .ok (.iload 4, 2) := by decide +kernel
theorem dX5_judge_159 : decode cX5_judge 159 = .ok (.iadd, 1) := by decide +kernel
theorem dX5_judge_160 : decode cX5_judge 160 = .ok (.baload, 1) := by decide +kernel
theorem dX5_judge_161 : decode cX5_judge 161 = .ok (.ifCond .ne 6, 3) := by decide +kernel
theorem dX5_judge_164 : decode cX5_judge 164 = .ok (.goto 189, 3) := by decide +kernel
theorem dX5_judge_167 : decode cX5_judge 167 = .ok (.aload_n 0, 1) := by decide +kernel
theorem dX5_judge_168 : decode cX5_judge 168 = .ok (.iload_n 1, 1) := by decide +kernel
theorem dX5_judge_169 : decode cX5_judge 169 = .ok (.iload 4, 2) := by decide +kernel
theorem dX5_judge_171 : decode cX5_judge 171 = .ok (.iload_n 3, 1) := by decide +kernel
theorem dX5_judge_172 : decode cX5_judge 172 = .ok (.invokevirtual 125, 3) := by decide +kernel
theorem dX5_judge_175 : decode cX5_judge 175 = .ok (.istore 5, 2) := by decide +kernel
theorem dX5_judge_177 : decode cX5_judge 177 = .ok (.iload 5, 2) := by decide +kernel
theorem dX5_judge_179 : decode cX5_judge 179 = .ok (.aload_n 0, 1) := by decide +kernel
theorem dX5_judge_180 : decode cX5_judge 180 = .ok (.getfield 35, 3) := by decide +kernel
theorem dX5_judge_183 : decode cX5_judge 183 = .ok (.bipush 16, 2) := by decide +kernel
theorem dX5_judge_185 : decode cX5_judge 185 = .ok (.iload_n 2, 1) := by decide +kernel
theorem dX5_judge_186 : decode cX5_judge 186 = .ok (.imul, 1) := by decide +kernel
theorem dX5_judge_187 : decode cX5_judge 187 = .ok (.iload 4, 2) := by decide +kernel
theorem dX5_judge_189 : decode cX5_judge 189 = .ok (.iadd, 1) := by decide +kernel
theorem dX5_judge_190 : decode cX5_judge 190 = .ok (.iaload, 1) := by decide +kernel
theorem dX5_judge_191 : decode cX5_judge 191 = .ok (.isub, 1) := by decide +kernel
theorem dX5_judge_192 : decode cX5_judge 192 = .ok (.istore 6, 2) := by decide +kernel
theorem dX5_judge_194 : decode cX5_judge 194 = .ok (.aload_n 0, 1) := by decide +kernel
theorem dX5_judge_195 : decode cX5_judge 195 = .ok (.dup, 1) := by decide +kernel
theorem dX5_judge_196 : decode cX5_judge 196 = .ok (.getfield 122, 3) := by decide +kernel
theorem dX5_judge_199 : decode cX5_judge 199 = .ok (.iload 5, 2) := by decide +kernel
theorem dX5_judge_201 : decode cX5_judge 201 = .ok (.iconst (-1), 1) := by decide +kernel
theorem dX5_judge_202 : decode cX5_judge 202 = .ok (.if_icmp .ne 23, 3) := by decide +kernel
theorem dX5_judge_205 : decode cX5_judge 205 = .ok (.bipush 7, 2) := by decide +kernel
theorem dX5_judge_207 : decode cX5_judge 207 = .ok (.aload_n 0, 1) := by decide +kernel
theorem dX5_judge_208 : decode cX5_judge 208 = .ok (.getfield 32, 3) := by decide +kernel
theorem dX5_judge_211 : decode cX5_judge 211 = .ok (.bipush 16, 2) := by decide +kernel
theorem dX5_judge_213 : decode cX5_judge 213 = .ok (.iload_n 2, 1) := by decide +kernel
theorem dX5_judge_214 : decode cX5_judge 214 = .ok (.imul, 1) := by decide +kernel
theorem dX5_judge_215 : decode cX5_judge 215 = .ok (.iload 4, 2) := by decide +kernel
theorem dX5_judge_217 : decode cX5_judge 217 = .ok (.iadd, 1) := by decide +kernel
theorem dX5_judge_218 : decode cX5_judge 218 = .ok (.iaload, 1) := by decide +kernel
theorem dX5_judge_219 : decode cX5_judge 219 = .ok (.imul, 1) := by decide +kernel
theorem dX5_judge_220 : decode cX5_judge 220 = .ok (.iconst 1, 1) := by decide +kernel
theorem dX5_judge_221 : decode cX5_judge 221 = .ok (.iadd, 1) := by decide +kernel
theorem dX5_judge_222 : decode cX5_judge 222 = .ok (.goto 29, 3) := by decide +kernel
theorem dX5_judge_225 : decode cX5_judge 225 = .ok (.aload_n 0, 1) := by decide +kernel
theorem dX5_judge_226 : decode cX5_judge 226 = .ok (.getfield 32, 3) := by decide +kernel
theorem dX5_judge_229 : decode cX5_judge 229 = .ok (.bipush 16, 2) := by decide +kernel
theorem dX5_judge_231 : decode cX5_judge 231 = .ok (.iload_n 2, 1) := by decide +kernel
theorem dX5_judge_232 : decode cX5_judge 232 = .ok (.imul, 1) := by decide +kernel
theorem dX5_judge_233 : decode cX5_judge 233 = .ok (.iload 4, 2) := by decide +kernel
theorem dX5_judge_235 : decode cX5_judge 235 = .ok (.iadd, 1) := by decide +kernel
theorem dX5_judge_236 : decode cX5_judge 236 = .ok (.iaload, 1) := by decide +kernel
theorem dX5_judge_237 : decode cX5_judge 237 = .ok (.iload 6, 2) := by decide +kernel
theorem dX5_judge_239 : decode cX5_judge 239 = .ok (.ifCond .ge 9, 3) := by decide +kernel
theorem dX5_judge_242 : decode cX5_judge 242 = .ok (.iload 6, 2) := by decide +kernel
theorem dX5_judge_244 : decode cX5_judge 244 = .ok (.ineg, 1) := by decide +kernel
theorem dX5_judge_245 : decode cX5_judge 245 = .ok (.goto 5, 3) := by decide +kernel
theorem dX5_judge_248 : decode cX5_judge 248 = .ok (.iload 6, 2) := by decide +kernel
theorem dX5_judge_250 : decode cX5_judge 250 = .ok (.imul, 1) := by decide +kernel
theorem dX5_judge_251 : decode cX5_judge 251 = .ok (.iadd, 1) := by decide +kernel
theorem dX5_judge_252 : decode cX5_judge 252 = .ok (.putfield 122, 3) := by decide +kernel
theorem dX5_judge_255 : decode cX5_judge 255 = .ok (.iconst 0, 1) := by decide +kernel
theorem dX5_judge_256 : decode cX5_judge 256 = .ok (.istore 7, 2) := by decide +kernel
theorem dX5_judge_258 : decode cX5_judge 258 = .ok (.iload 7, 2) := by decide +kernel
theorem dX5_judge_260 : decode cX5_judge 260 = .ok (.iload 4, 2) := by decide +kernel
theorem dX5_judge_262 : decode cX5_judge 262 = .ok (.if_icmp .ge 91, 3) := by decide +kernel
theorem dX5_judge_265 : decode cX5_judge 265 = .ok (.iload 5, 2) := by decide +kernel
theorem dX5_judge_267 : decode cX5_judge 267 = .ok (.iconst (-1), 1) := by decide +kernel
theorem dX5_judge_268 : decode cX5_judge 268 = .ok (.if_icmp .eq 85, 3) := by decide +kernel
theorem dX5_judge_271 : decode cX5_judge 271 = .ok (.aload_n 0, 1) := by decide +kernel
theorem dX5_judge_272 : decode cX5_judge 272 = .ok (.getfield 25, 3) := by decide +kernel
theorem dX5_judge_275 : decode cX5_judge 275 = .ok (.bipush 16, 2) := by decide +kernel
theorem dX5_judge_277 : decode cX5_judge 277 = .ok (.iload_n 2, 1) := by decide +kernel
theorem dX5_judge_278 : decode cX5_judge 278 = .ok (.imul, 1) := by decide +kernel
theorem dX5_judge_279 : decode cX5_judge 279 = .ok (.iload 7, 2) := by decide +kernel
theorem dX5_judge_281 : decode cX5_judge 281 = .ok (.iadd, 1) := by decide +kernel
theorem dX5_judge_282 : decode cX5_judge 282 = .ok (.baload, 1) := by decide +kernel
theorem dX5_judge_283 : decode cX5_judge 283 = .ok (.ifCond .eq 41, 3) := by decide +kernel
theorem dX5_judge_286 : decode cX5_judge 286 = .ok (.aload_n 0, 1) := by decide +kernel
theorem dX5_judge_287 : decode cX5_judge 287 = .ok (.getfield 41, 3) := by decide +kernel
theorem dX5_judge_290 : decode cX5_judge 290 = .ok (.bipush 16, 2) := by decide +kernel
theorem dX5_judge_292 : decode cX5_judge 292 = .ok (.iload_n 2, 1) := by decide +kernel
theorem dX5_judge_293 : decode cX5_judge 293 = .ok (.imul, 1) := by decide +kernel
theorem dX5_judge_294 : decode cX5_judge 294 = .ok (.iload 4, 2) := by decide +kernel
theorem dX5_judge_296 : decode cX5_judge 296 = .ok (.iadd, 1) := by decide +kernel
theorem dX5_judge_297 : decode cX5_judge 297 = .ok (.iaload, 1) := by decide +kernel
theorem dX5_judge_298 : decode cX5_judge 298 = .ok (.iload 7, 2) := by decide +kernel
theorem dX5_judge_300 : decode cX5_judge 300 = .ok (.ishr, 1) := by decide +kernel
theorem dX5_judge_301 : decode cX5_judge 301 = .ok (.iconst 1, 1) := by decide +kernel
theorem dX5_judge_302 : decode cX5_judge 302 = .ok (.iand, 1) := by decide +kernel
theorem dX5_judge_303 : decode cX5_judge 303 = .ok (.iconst 1, 1) := by decide +kernel
theorem dX5_judge_304 : decode cX5_judge 304 = .ok (.if_icmp .ne 20, 3) := by decide +kernel
theorem dX5_judge_307 : decode cX5_judge 307 = .ok (.aload_n 0, 1) := by decide +kernel
theorem dX5_judge_308 : decode cX5_judge 308 = .ok (.iload_n 1, 1) := by decide +kernel
theorem dX5_judge_309 : decode cX5_judge 309 = .ok (.iload 7, 2) := by decide +kernel
theorem dX5_judge_311 : decode cX5_judge 311 = .ok (.iload_n 3, 1) := by decide +kernel
theorem dX5_judge_312 : decode cX5_judge 312 = .ok (.invokevirtual 125, 3) := by decide +kernel
theorem dX5_judge_315 : decode cX5_judge 315 = .ok (.iload 5, 2) := by decide +kernel
theorem dX5_judge_317 : decode cX5_judge 317 = .ok (.if_icmp .ne 7, 3) := by decide +kernel
theorem dX5_judge_320 : decode cX5_judge 320 = .ok (.iconst 1, 1) := by decide +kernel
theorem dX5_judge_321 : decode cX5_judge 321 = .ok (.goto 4, 3) := by decide +kernel
theorem dX5_judge_324 : decode cX5_judge 324 = .ok (.iconst 0, 1) := by decide +kernel
theorem dX5_judge_325 : decode cX5_judge 325 = .ok (.istore 8, 2) := by decide +kernel
theorem dX5_judge_327 : decode cX5_judge 327 = .ok (.aload_n 0, 1) := by decide +kernel
theorem dX5_judge_328 : decode cX5_judge 328 = .ok (.dup, 1) := by decide +kernel
theorem dX5_judge_329 : decode cX5_judge 329 = .ok (.getfield 119, 3) := by decide +kernel
theorem dX5_judge_332 : decode cX5_judge 332 = .ok (.iload 8, 2) := by decide +kernel
theorem dX5_judge_334 : decode cX5_judge 334 = .ok (.ifCond .eq 8, 3) := by decide +kernel
theorem dX5_judge_337 : decode cX5_judge 337 = .ok (.bipush 10, 2) := by decide +kernel
theorem dX5_judge_339 : decode cX5_judge 339 = .ok (.goto 4, 3) := by decide +kernel
theorem dX5_judge_342 : decode cX5_judge 342 = .ok (.iconst 0, 1) := by decide +kernel
theorem dX5_judge_343 : decode cX5_judge 343 = .ok (.iadd, 1) := by decide +kernel
theorem dX5_judge_344 : decode cX5_judge 344 = .ok (.putfield 119, 3) := by decide +kernel
theorem dX5_judge_347 : decode cX5_judge 347 = .ok (.iinc 7 1, 3) := by decide +kernel
theorem dX5_judge_350 : decode cX5_judge 350 = .ok (.goto (-92), 3) := by decide +kernel
theorem dX5_judge_353 : decode cX5_judge 353 = .ok (.iinc 4 1, 3) := by decide +kernel
theorem dX5_judge_356 : decode cX5_judge 356 = .ok (.goto (-214), 3) := by decide +kernel
theorem dX5_judge_359 : decode cX5_judge 359 = .ok (.return_, 1) := by decide +kernel
theorem dX5_roomOf_0 : decode cX5_roomOf 0 = .ok (.aload_n 0, 1) := by decide +kernel
theorem dX5_roomOf_1 : decode cX5_roomOf 1 = .ok (.getfield 25, 3) := by decide +kernel
theorem dX5_roomOf_4 : decode cX5_roomOf 4 = .ok (.bipush 16, 2) := by decide +kernel
theorem dX5_roomOf_6 : decode cX5_roomOf 6 = .ok (.iload_n 3, 1) := by decide +kernel
theorem dX5_roomOf_7 : decode cX5_roomOf 7 = .ok (.imul, 1) := by decide +kernel
theorem dX5_roomOf_8 : decode cX5_roomOf 8 = .ok (.iload_n 2, 1) := by decide +kernel
theorem dX5_roomOf_9 : decode cX5_roomOf 9 = .ok (.iadd, 1) := by decide +kernel
theorem dX5_roomOf_10 : decode cX5_roomOf 10 = .ok (.baload, 1) := by decide +kernel
theorem dX5_roomOf_11 : decode cX5_roomOf 11 = .ok (.ifCond .eq 17, 3) := by decide +kernel
theorem dX5_roomOf_14 : decode cX5_roomOf 14 = .ok (.aload_n 0, 1) := by decide +kernel
theorem dX5_roomOf_15 : decode cX5_roomOf 15 = .ok (.getfield 47, 3) := by decide +kernel
theorem dX5_roomOf_18 : decode cX5_roomOf 18 = .ok (.bipush 16, 2) := by decide +kernel
theorem dX5_roomOf_20 : decode cX5_roomOf 20 = .ok (.iload_n 1, 1) := by decide +kernel
theorem dX5_roomOf_21 : decode cX5_roomOf 21 = .ok (.imul, 1) := by decide +kernel
theorem dX5_roomOf_22 : decode cX5_roomOf 22 = .ok (.iload_n 2, 1) := by decide +kernel
theorem dX5_roomOf_23 : decode cX5_roomOf 23 = .ok (.iadd, 1) := by decide +kernel
theorem dX5_roomOf_24 : decode cX5_roomOf 24 = .ok (.iaload, 1) := by decide +kernel
theorem dX5_roomOf_25 : decode cX5_roomOf 25 = .ok (.goto 4, 3) := by decide +kernel
theorem dX5_roomOf_28 : decode cX5_roomOf 28 = .ok (.iconst (-1), 1) := by decide +kernel
theorem dX5_roomOf_29 : decode cX5_roomOf 29 = .ok (.ireturn, 1) := by decide +kernel
theorem dX5_isBetter_0 : decode cX5_isBetter 0 = .ok (.iload_n 0, 1) := by decide +kernel
theorem dX5_isBetter_1 : decode cX5_isBetter 1 = .ok (.iload_n 2, 1) := by decide +kernel
theorem dX5_isBetter_2 : decode cX5_isBetter 2 = .ok (.if_icmp .lt 13, 3) := by decide +kernel
theorem dX5_isBetter_5 : decode cX5_isBetter 5 = .ok (.iload_n 0, 1) := by decide +kernel
theorem dX5_isBetter_6 : decode cX5_isBetter 6 = .ok (.iload_n 2, 1) := by decide +kernel
theorem dX5_isBetter_7 : decode cX5_isBetter 7 = .ok (.if_icmp .ne 12, 3) := by decide +kernel
theorem dX5_isBetter_10 : decode cX5_isBetter 10 = .ok (.iload_n 1, 1) := by decide +kernel
theorem dX5_isBetter_11 : decode cX5_isBetter 11 = .ok (.iload_n 3, 1) := by decide +kernel
theorem dX5_isBetter_12 : decode cX5_isBetter 12 = .ok (.if_icmp .ge 7, 3) := by decide +kernel
theorem dX5_isBetter_15 : decode cX5_isBetter 15 = .ok (.iconst 1, 1) := by decide +kernel
theorem dX5_isBetter_16 : decode cX5_isBetter 16 = .ok (.goto 4, 3) := by decide +kernel
theorem dX5_isBetter_19 : decode cX5_isBetter 19 = .ok (.iconst 0, 1) := by decide +kernel
theorem dX5_isBetter_20 : decode cX5_isBetter 20 = .ok (.ireturn, 1) := by decide +kernel
theorem dX5_copyPlan_0 : decode cX5_copyPlan 0 = .ok (.iconst 0, 1) := by decide +kernel
theorem dX5_copyPlan_1 : decode cX5_copyPlan 1 = .ok (.istore_n 3, 1) := by decide +kernel
theorem dX5_copyPlan_2 : decode cX5_copyPlan 2 = .ok (.iload_n 3, 1) := by decide +kernel
theorem dX5_copyPlan_3 : decode cX5_copyPlan 3 = .ok (.bipush 16, 2) := by decide +kernel
theorem dX5_copyPlan_5 : decode cX5_copyPlan 5 = .ok (.if_icmp .ge 31, 3) := by decide +kernel
theorem dX5_copyPlan_8 : decode cX5_copyPlan 8 = .ok (.aload_n 0, 1) := by decide +kernel
theorem dX5_copyPlan_9 : decode cX5_copyPlan 9 = .ok (.getfield 47, 3) := by decide +kernel
theorem dX5_copyPlan_12 : decode cX5_copyPlan 12 = .ok (.bipush 16, 2) := by decide +kernel
theorem dX5_copyPlan_14 : decode cX5_copyPlan 14 = .ok (.iload_n 2, 1) := by decide +kernel
theorem dX5_copyPlan_15 : decode cX5_copyPlan 15 = .ok (.imul, 1) := by decide +kernel
theorem dX5_copyPlan_16 : decode cX5_copyPlan 16 = .ok (.iload_n 3, 1) := by decide +kernel
theorem dX5_copyPlan_17 : decode cX5_copyPlan 17 = .ok (.iadd, 1) := by decide +kernel
theorem dX5_copyPlan_18 : decode cX5_copyPlan 18 = .ok (.aload_n 0, 1) := by decide +kernel
theorem dX5_copyPlan_19 : decode cX5_copyPlan 19 = .ok (.getfield 47, 3) := by decide +kernel
theorem dX5_copyPlan_22 : decode cX5_copyPlan 22 = .ok (.bipush 16, 2) := by decide +kernel
theorem dX5_copyPlan_24 : decode cX5_copyPlan 24 = .ok (.iload_n 1, 1) := by decide +kernel
theorem dX5_copyPlan_25 : decode cX5_copyPlan 25 = .ok (.imul, 1) := by decide +kernel
theorem dX5_copyPlan_26 : decode cX5_copyPlan 26 = .ok (.iload_n 3, 1) := by decide +kernel
theorem dX5_copyPlan_27 : decode cX5_copyPlan 27 = .ok (.iadd, 1) := by decide +kernel
theorem dX5_copyPlan_28 : decode cX5_copyPlan 28 = .ok (.iaload, 1) := by decide +kernel
theorem dX5_copyPlan_29 : decode cX5_copyPlan 29 = .ok (.iastore, 1) := by decide +kernel
theorem dX5_copyPlan_30 : decode cX5_copyPlan 30 = .ok (.iinc 3 1, 3) := by decide +kernel
theorem dX5_copyPlan_33 : decode cX5_copyPlan 33 = .ok (.goto (-31), 3) := by decide +kernel
theorem dX5_copyPlan_36 : decode cX5_copyPlan 36 = .ok (.return_, 1) := by decide +kernel
theorem dX5_isSolve_0 : decode cX5_isSolve 0 = .ok (.iload_n 1, 1) := by decide +kernel
theorem dX5_isSolve_1 : decode cX5_isSolve 1 = .ok (.iconst 0, 1) := by decide +kernel
theorem dX5_isSolve_2 : decode cX5_isSolve 2 = .ok (.aload_n 0, 1) := by decide +kernel
theorem dX5_isSolve_3 : decode cX5_isSolve 3 = .ok (.getfield 129, 3) := by decide +kernel
theorem dX5_isSolve_6 : decode cX5_isSolve 6 = .ok (.iconst 1, 1) := by decide +kernel
theorem dX5_isSolve_7 : decode cX5_isSolve 7 = .ok (.isub, 1) := by decide +kernel
theorem dX5_isSolve_8 : decode cX5_isSolve 8 = .ok (.invokestatic 101, 3) := by decide +kernel
theorem dX5_isSolve_11 : decode cX5_isSolve 11 = .ok (.ireturn, 1) := by decide +kernel
theorem dX5_solve_0 : decode cX5_solve 0 = .ok (.iload_n 2, 1) := by decide +kernel
theorem dX5_solve_1 : decode cX5_solve 1 = .ok (.iconst 1, 1) := by decide +kernel
theorem dX5_solve_2 : decode cX5_solve 2 = .ok (.bipush 8, 2) := by decide +kernel
theorem dX5_solve_4 : decode cX5_solve 4 = .ok (.invokestatic 101, 3) := by decide +kernel
theorem dX5_solve_7 : decode cX5_solve 7 = .ok (.ifCond .ne 6, 3) := by decide +kernel
theorem dX5_solve_10 : decode cX5_solve 10 = .ok (.bipush (-2), 2) := by decide +kernel
theorem dX5_solve_12 : decode cX5_solve 12 = .ok (.ireturn, 1) := by decide +kernel
theorem dX5_solve_13 : decode cX5_solve 13 = .ok (.aload_n 0, 1) := by decide +kernel
theorem dX5_solve_14 : decode cX5_solve 14 = .ok (.getfield 129, 3) := by decide +kernel
theorem dX5_solve_17 : decode cX5_solve 17 = .ok (.iconst 3, 1) := by decide +kernel
theorem dX5_solve_18 : decode cX5_solve 18 = .ok (.if_icmp .ne 6, 3) := by decide +kernel
theorem dX5_solve_21 : decode cX5_solve 21 = .ok (.bipush (-4), 2) := by decide +kernel
theorem dX5_solve_23 : decode cX5_solve 23 = .ok (.ireturn, 1) := by decide +kernel
theorem dX5_solve_24 : decode cX5_solve 24 = .ok (.aload_n 0, 1) := by decide +kernel
theorem dX5_solve_25 : decode cX5_solve 25 = .ok (.getfield 129, 3) := by decide +kernel
theorem dX5_solve_28 : decode cX5_solve 28 = .ok (.istore_n 3, 1) := by decide +kernel
theorem dX5_solve_29 : decode cX5_solve 29 = .ok (.aload_n 0, 1) := by decide +kernel
theorem dX5_solve_30 : decode cX5_solve 30 = .ok (.dup, 1) := by decide +kernel
theorem dX5_solve_31 : decode cX5_solve 31 = .ok (.getfield 129, 3) := by decide +kernel
theorem dX5_solve_34 : decode cX5_solve 34 = .ok (.iconst 1, 1) := by decide +kernel
theorem dX5_solve_35 : decode cX5_solve 35 = .ok (.iadd, 1) := by decide +kernel
theorem dX5_solve_36 : decode cX5_solve 36 = .ok (.putfield 129, 3) := by decide +kernel
theorem dX5_solve_39 : decode cX5_solve 39 = .ok (.aload_n 0, 1) := by decide +kernel
theorem dX5_solve_40 : decode cX5_solve 40 = .ok (.iload_n 3, 1) := by decide +kernel
theorem dX5_solve_41 : decode cX5_solve 41 = .ok (.invokevirtual 86, 3) := by decide +kernel
theorem dX5_solve_44 : decode cX5_solve 44 = .ok (.aload_n 0, 1) := by decide +kernel
theorem dX5_solve_45 : decode cX5_solve 45 = .ok (.getfield 50, 3) := by decide +kernel
theorem dX5_solve_48 : decode cX5_solve 48 = .ok (.iload_n 3, 1) := by decide +kernel
theorem dX5_solve_49 : decode cX5_solve 49 = .ok (.iconst 0, 1) := by decide +kernel
theorem dX5_solve_50 : decode cX5_solve 50 = .ok (.iastore, 1) := by decide +kernel
theorem dX5_solve_51 : decode cX5_solve 51 = .ok (.aload_n 0, 1) := by decide +kernel
theorem dX5_solve_52 : decode cX5_solve 52 = .ok (.getfield 53, 3) := by decide +kernel
theorem dX5_solve_55 : decode cX5_solve 55 = .ok (.iload_n 3, 1) := by decide +kernel
theorem dX5_solve_56 : decode cX5_solve 56 = .ok (.iconst 0, 1) := by decide +kernel
theorem dX5_solve_57 : decode cX5_solve 57 = .ok (.iastore, 1) := by decide +kernel
theorem dX5_solve_58 : decode cX5_solve 58 = .ok (.aload_n 0, 1) := by decide +kernel
theorem dX5_solve_59 : decode cX5_solve 59 = .ok (.getfield 56, 3) := by decide +kernel
theorem dX5_solve_62 : decode cX5_solve 62 = .ok (.iload_n 3, 1) := by decide +kernel
theorem dX5_solve_63 : decode cX5_solve 63 = .ok (.iload_n 1, 1) := by decide +kernel
theorem dX5_solve_64 : decode cX5_solve 64 = .ok (.iastore, 1) := by decide +kernel
theorem dX5_solve_65 : decode cX5_solve 65 = .ok (.aload_n 0, 1) := by decide +kernel
theorem dX5_solve_66 : decode cX5_solve 66 = .ok (.getfield 59, 3) := by decide +kernel
theorem dX5_solve_69 : decode cX5_solve 69 = .ok (.iload_n 3, 1) := by decide +kernel
theorem dX5_solve_70 : decode cX5_solve 70 = .ok (.iload_n 2, 1) := by decide +kernel
theorem dX5_solve_71 : decode cX5_solve 71 = .ok (.iastore, 1) := by decide +kernel
theorem dX5_solve_72 : decode cX5_solve 72 = .ok (.aload_n 0, 1) := by decide +kernel
theorem dX5_solve_73 : decode cX5_solve 73 = .ok (.getfield 68, 3) := by decide +kernel
theorem dX5_solve_76 : decode cX5_solve 76 = .ok (.iload_n 3, 1) := by decide +kernel
theorem dX5_solve_77 : decode cX5_solve 77 = .ok (.iconst 0, 1) := by decide +kernel
theorem dX5_solve_78 : decode cX5_solve 78 = .ok (.iastore, 1) := by decide +kernel
theorem dX5_solve_79 : decode cX5_solve 79 = .ok (.aload_n 0, 1) := by decide +kernel
theorem dX5_solve_80 : decode cX5_solve 80 = .ok (.getfield 71, 3) := by decide +kernel
theorem dX5_solve_83 : decode cX5_solve 83 = .ok (.iload_n 3, 1) := by decide +kernel
theorem dX5_solve_84 : decode cX5_solve 84 = .ok (.iconst 0, 1) := by decide +kernel
theorem dX5_solve_85 : decode cX5_solve 85 = .ok (.iastore, 1) := by decide +kernel
theorem dX5_solve_86 : decode cX5_solve 86 = .ok (.aload_n 0, 1) := by decide +kernel
theorem dX5_solve_87 : decode cX5_solve 87 = .ok (.getfield 74, 3) := by decide +kernel
theorem dX5_solve_90 : decode cX5_solve 90 = .ok (.iconst 2, 1) := by decide +kernel
theorem dX5_solve_91 : decode cX5_solve 91 = .ok (.iload_n 3, 1) := by decide +kernel
theorem dX5_solve_92 : decode cX5_solve 92 = .ok (.imul, 1) := by decide +kernel
theorem dX5_solve_93 : decode cX5_solve 93 = .ok (.iconst 0, 1) := by decide +kernel
theorem dX5_solve_94 : decode cX5_solve 94 = .ok (.bastore, 1) := by decide +kernel
theorem dX5_solve_95 : decode cX5_solve 95 = .ok (.aload_n 0, 1) := by decide +kernel
theorem dX5_solve_96 : decode cX5_solve 96 = .ok (.getfield 74, 3) := by decide +kernel
theorem dX5_solve_99 : decode cX5_solve 99 = .ok (.iconst 2, 1) := by decide +kernel
theorem dX5_solve_100 : decode cX5_solve 100 = .ok (.iload_n 3, 1) := by decide +kernel
theorem dX5_solve_101 : decode cX5_solve 101 = .ok (.imul, 1) := by decide +kernel
theorem dX5_solve_102 : decode cX5_solve 102 = .ok (.iconst 1, 1) := by decide +kernel
theorem dX5_solve_103 : decode cX5_solve 103 = .ok (.iadd, 1) := by decide +kernel
theorem dX5_solve_104 : decode cX5_solve 104 = .ok (.iconst 0, 1) := by decide +kernel
theorem dX5_solve_105 : decode cX5_solve 105 = .ok (.bastore, 1) := by decide +kernel
theorem dX5_solve_106 : decode cX5_solve 106 = .ok (.iconst 0, 1) := by decide +kernel
theorem dX5_solve_107 : decode cX5_solve 107 = .ok (.istore 4, 2) := by decide +kernel
theorem dX5_solve_109 : decode cX5_solve 109 = .ok (.iload 4, 2) := by decide +kernel
theorem dX5_solve_111 : decode cX5_solve 111 = .ok (.bipush 16, 2) := by decide +kernel
theorem dX5_solve_113 : decode cX5_solve 113 = .ok (.if_icmp .ge 37, 3) := by decide +kernel
theorem dX5_solve_116 : decode cX5_solve 116 = .ok (.aload_n 0, 1) := by decide +kernel
theorem dX5_solve_117 : decode cX5_solve 117 = .ok (.getfield 47, 3) := by decide +kernel
theorem dX5_solve_120 : decode cX5_solve 120 = .ok (.bipush 16, 2) := by decide +kernel
theorem dX5_solve_122 : decode cX5_solve 122 = .ok (.iload_n 3, 1) := by decide +kernel
theorem dX5_solve_123 : decode cX5_solve 123 = .ok (.imul, 1) := by decide +kernel
theorem dX5_solve_124 : decode cX5_solve 124 = .ok (.iload 4, 2) := by decide +kernel
theorem dX5_solve_126 : decode cX5_solve 126 = .ok (.iadd, 1) := by decide +kernel
theorem dX5_solve_127 : decode cX5_solve 127 = .ok (.iconst (-1), 1) := by decide +kernel
theorem dX5_solve_128 : decode cX5_solve 128 = .ok (.iastore, 1) := by decide +kernel
theorem dX5_solve_129 : decode cX5_solve 129 = .ok (.aload_n 0, 1) := by decide +kernel
theorem dX5_solve_130 : decode cX5_solve 130 = .ok (.getfield 47, 3) := by decide +kernel
theorem dX5_solve_133 : decode cX5_solve 133 = .ok (.bipush 16, 2) := by decide +kernel
theorem dX5_solve_135 : decode cX5_solve 135 = .ok (.iconst 3, 1) := by decide +kernel
theorem dX5_solve_136 : decode cX5_solve 136 = .ok (.iload_n 3, 1) := by decide +kernel
theorem dX5_solve_137 : decode cX5_solve 137 = .ok (.iadd, 1) := by decide +kernel
theorem dX5_solve_138 : decode cX5_solve 138 = .ok (.imul, 1) := by decide +kernel
theorem dX5_solve_139 : decode cX5_solve 139 = .ok (.iload 4, 2) := by decide +kernel
theorem dX5_solve_141 : decode cX5_solve 141 = .ok (.iadd, 1) := by decide +kernel
theorem dX5_solve_142 : decode cX5_solve 142 = .ok (.iconst (-1), 1) := by decide +kernel
theorem dX5_solve_143 : decode cX5_solve 143 = .ok (.iastore, 1) := by decide +kernel
theorem dX5_solve_144 : decode cX5_solve 144 = .ok (.iinc 4 1, 3) := by decide +kernel
theorem dX5_solve_147 : decode cX5_solve 147 = .ok (.goto (-38), 3) := by decide +kernel
theorem dX5_solve_150 : decode cX5_solve 150 = .ok (.aload_n 0, 1) := by decide +kernel
theorem dX5_solve_151 : decode cX5_solve 151 = .ok (.iload_n 3, 1) := by decide +kernel
theorem dX5_solve_152 : decode cX5_solve 152 = .ok (.invokevirtual 132, 3) := by decide +kernel
theorem dX5_solve_155 : decode cX5_solve 155 = .ok (.iload_n 3, 1) := by decide +kernel
theorem dX5_solve_156 : decode cX5_solve 156 = .ok (.ireturn, 1) := by decide +kernel
theorem dX5_fillLate_0 : decode cX5_fillLate 0 = .ok (.aload_n 0, 1) := by decide +kernel
theorem dX5_fillLate_1 : decode cX5_fillLate 1 = .ok (.iload_n 1, 1) := by decide +kernel
theorem dX5_fillLate_2 : decode cX5_fillLate 2 = .ok (.iload_n 1, 1) := by decide +kernel
theorem dX5_fillLate_3 : decode cX5_fillLate 3 = .ok (.iload_n 1, 1) := by decide +kernel
theorem dX5_fillLate_4 : decode cX5_fillLate 4 = .ok (.invokevirtual 135, 3) := by decide +kernel
theorem dX5_fillLate_7 : decode cX5_fillLate 7 = .ok (.iconst 0, 1) := by decide +kernel
theorem dX5_fillLate_8 : decode cX5_fillLate 8 = .ok (.istore_n 2, 1) := by decide +kernel
theorem dX5_fillLate_9 : decode cX5_fillLate 9 = .ok (.iload_n 2, 1) := by decide +kernel
theorem dX5_fillLate_10 : decode cX5_fillLate 10 = .ok (.aload_n 0, 1) := by decide +kernel
theorem dX5_fillLate_11 : decode cX5_fillLate 11 = .ok (.getfield 59, 3) := by decide +kernel
theorem dX5_fillLate_14 : decode cX5_fillLate 14 = .ok (.iload_n 1, 1) := by decide +kernel
theorem dX5_fillLate_15 : decode cX5_fillLate 15 = .ok (.iaload, 1) := by decide +kernel
theorem dX5_fillLate_16 : decode cX5_fillLate 16 = .ok (.if_icmp .ge 39, 3) := by decide +kernel
theorem dX5_fillLate_19 : decode cX5_fillLate 19 = .ok (.aload_n 0, 1) := by decide +kernel
theorem dX5_fillLate_20 : decode cX5_fillLate 20 = .ok (.getfield 62, 3) := by decide +kernel
theorem dX5_fillLate_23 : decode cX5_fillLate 23 = .ok (.bipush 8, 2) := by decide +kernel
theorem dX5_fillLate_25 : decode cX5_fillLate 25 = .ok (.iload_n 1, 1) := by decide +kernel
theorem dX5_fillLate_26 : decode cX5_fillLate 26 = .ok (.imul, 1) := by decide +kernel
theorem dX5_fillLate_27 : decode cX5_fillLate 27 = .ok (.iload_n 2, 1) := by decide +kernel
theorem dX5_fillLate_28 : decode cX5_fillLate 28 = .ok (.iadd, 1) := by decide +kernel
theorem dX5_fillLate_29 : decode cX5_fillLate 29 = .ok (.aload_n 0, 1) := by decide +kernel
theorem dX5_fillLate_30 : decode cX5_fillLate 30 = .ok (.getfield 119, 3) := by decide +kernel
theorem dX5_fillLate_33 : decode cX5_fillLate 33 = .ok (.iastore, 1) := by decide +kernel
theorem dX5_fillLate_34 : decode cX5_fillLate 34 = .ok (.aload_n 0, 1) := by decide +kernel
theorem dX5_fillLate_35 : decode cX5_fillLate 35 = .ok (.getfield 65, 3) := by decide +kernel
theorem dX5_fillLate_38 : decode cX5_fillLate 38 = .ok (.bipush 8, 2) := by decide +kernel
theorem dX5_fillLate_40 : decode cX5_fillLate 40 = .ok (.iload_n 1, 1) := by decide +kernel
theorem dX5_fillLate_41 : decode cX5_fillLate 41 = .ok (.imul, 1) := by decide +kernel
theorem dX5_fillLate_42 : decode cX5_fillLate 42 = .ok (.iload_n 2, 1) := by decide +kernel
theorem dX5_fillLate_43 : decode cX5_fillLate 43 = .ok (.iadd, 1) := by decide +kernel
theorem dX5_fillLate_44 : decode cX5_fillLate 44 = .ok (.aload_n 0, 1) := by decide +kernel
theorem dX5_fillLate_45 : decode cX5_fillLate 45 = .ok (.getfield 122, 3) := by decide +kernel
theorem dX5_fillLate_48 : decode cX5_fillLate 48 = .ok (.iastore, 1) := by decide +kernel
theorem dX5_fillLate_49 : decode cX5_fillLate 49 = .ok (.iinc 2 1, 3) := by decide +kernel
theorem dX5_fillLate_52 : decode cX5_fillLate 52 = .ok (.goto (-43), 3) := by decide +kernel
theorem dX5_fillLate_55 : decode cX5_fillLate 55 = .ok (.return_, 1) := by decide +kernel
theorem dX5_keepBest_0 : decode cX5_keepBest 0 = .ok (.aload_n 0, 1) := by decide +kernel
theorem dX5_keepBest_1 : decode cX5_keepBest 1 = .ok (.iconst 3, 1) := by decide +kernel
theorem dX5_keepBest_2 : decode cX5_keepBest 2 = .ok (.iload_n 1, 1) := by decide +kernel
theorem dX5_keepBest_3 : decode cX5_keepBest 3 = .ok (.iadd, 1) := by decide +kernel
theorem dX5_keepBest_4 : decode cX5_keepBest 4 = .ok (.iload_n 1, 1) := by decide +kernel
theorem dX5_keepBest_5 : decode cX5_keepBest 5 = .ok (.iload_n 1, 1) := by decide +kernel
theorem dX5_keepBest_6 : decode cX5_keepBest 6 = .ok (.invokevirtual 135, 3) := by decide +kernel
theorem dX5_keepBest_9 : decode cX5_keepBest 9 = .ok (.aload_n 0, 1) := by decide +kernel
theorem dX5_keepBest_10 : decode cX5_keepBest 10 = .ok (.getfield 119, 3) := by decide +kernel
theorem dX5_keepBest_13 : decode cX5_keepBest 13 = .ok (.istore_n 2, 1) := by decide +kernel
theorem dX5_keepBest_14 : decode cX5_keepBest 14 = .ok (.aload_n 0, 1) := by decide +kernel
theorem dX5_keepBest_15 : decode cX5_keepBest 15 = .ok (.getfield 122, 3) := by decide +kernel
theorem dX5_keepBest_18 : decode cX5_keepBest 18 = .ok (.istore_n 3, 1) := by decide +kernel
theorem dX5_keepBest_19 : decode cX5_keepBest 19 = .ok (.aload_n 0, 1) := by decide +kernel
theorem dX5_keepBest_20 : decode cX5_keepBest 20 = .ok (.iload_n 1, 1) := by decide +kernel
theorem dX5_keepBest_21 : decode cX5_keepBest 21 = .ok (.iload_n 1, 1) := by decide +kernel
theorem dX5_keepBest_22 : decode cX5_keepBest 22 = .ok (.iload_n 1, 1) := by decide +kernel
theorem dX5_keepBest_23 : decode cX5_keepBest 23 = .ok (.invokevirtual 135, 3) := by decide +kernel
theorem dX5_keepBest_26 : decode cX5_keepBest 26 = .ok (.aload_n 0, 1) := by decide +kernel
theorem dX5_keepBest_27 : decode cX5_keepBest 27 = .ok (.getfield 119, 3) := by decide +kernel
theorem dX5_keepBest_30 : decode cX5_keepBest 30 = .ok (.aload_n 0, 1) := by decide +kernel
theorem dX5_keepBest_31 : decode cX5_keepBest 31 = .ok (.getfield 122, 3) := by decide +kernel
theorem dX5_keepBest_34 : decode cX5_keepBest 34 = .ok (.iload_n 2, 1) := by decide +kernel
theorem dX5_keepBest_35 : decode cX5_keepBest 35 = .ok (.iload_n 3, 1) := by decide +kernel
theorem dX5_keepBest_36 : decode cX5_keepBest 36 = .ok (.invokestatic 139, 3) := by decide +kernel
theorem dX5_keepBest_39 : decode cX5_keepBest 39 = .ok (.ifCond .eq 21, 3) := by decide +kernel
theorem dX5_keepBest_42 : decode cX5_keepBest 42 = .ok (.aload_n 0, 1) := by decide +kernel
theorem dX5_keepBest_43 : decode cX5_keepBest 43 = .ok (.iload_n 1, 1) := by decide +kernel
theorem dX5_keepBest_44 : decode cX5_keepBest 44 = .ok (.iconst 3, 1) := by decide +kernel
theorem dX5_keepBest_45 : decode cX5_keepBest 45 = .ok (.iload_n 1, 1) := by decide +kernel
theorem dX5_keepBest_46 : decode cX5_keepBest 46 = .ok (.iadd, 1) := by decide +kernel
theorem dX5_keepBest_47 : decode cX5_keepBest 47 = .ok (.invokevirtual 143, 3) := by decide +kernel
theorem dX5_keepBest_50 : decode cX5_keepBest 50 = .ok (.aload_n 0, 1) := by decide +kernel
theorem dX5_keepBest_51 : decode cX5_keepBest 51 = .ok (.getfield 71, 3) := by decide +kernel
theorem dX5_keepBest_54 : decode cX5_keepBest 54 = .ok (.iload_n 1, 1) := by decide +kernel
theorem dX5_keepBest_55 : decode cX5_keepBest 55 = .ok (.dup2, 1) := by decide +kernel
theorem dX5_keepBest_56 : decode cX5_keepBest 56 = .ok (.iaload, 1) := by decide +kernel
theorem dX5_keepBest_57 : decode cX5_keepBest 57 = .ok (.iconst 1, 1) := by decide +kernel
theorem dX5_keepBest_58 : decode cX5_keepBest 58 = .ok (.iadd, 1) := by decide +kernel
theorem dX5_keepBest_59 : decode cX5_keepBest 59 = .ok (.iastore, 1) := by decide +kernel
theorem dX5_keepBest_60 : decode cX5_keepBest 60 = .ok (.return_, 1) := by decide +kernel
theorem dX5_catchUp_0 : decode cX5_catchUp 0 = .ok (.aload_n 0, 1) := by decide +kernel
theorem dX5_catchUp_1 : decode cX5_catchUp 1 = .ok (.getfield 50, 3) := by decide +kernel
theorem dX5_catchUp_4 : decode cX5_catchUp 4 = .ok (.iload_n 1, 1) := by decide +kernel
theorem dX5_catchUp_5 : decode cX5_catchUp 5 = .ok (.iaload, 1) := by decide +kernel
theorem dX5_catchUp_6 : decode cX5_catchUp 6 = .ok (.istore_n 3, 1) := by decide +kernel
theorem dX5_catchUp_7 : decode cX5_catchUp 7 = .ok (.aload_n 0, 1) := by decide +kernel
theorem dX5_catchUp_8 : decode cX5_catchUp 8 = .ok (.getfield 50, 3) := by decide +kernel
theorem dX5_catchUp_11 : decode cX5_catchUp 11 = .ok (.iload_n 1, 1) := by decide +kernel
theorem dX5_catchUp_12 : decode cX5_catchUp 12 = .ok (.iaload, 1) := by decide +kernel
theorem dX5_catchUp_13 : decode cX5_catchUp 13 = .ok (.iload_n 2, 1) := by decide +kernel
theorem dX5_catchUp_14 : decode cX5_catchUp 14 = .ok (.if_icmp .ge 115, 3) := by decide +kernel
theorem dX5_catchUp_17 : decode cX5_catchUp 17 = .ok (.aload_n 0, 1) := by decide +kernel
theorem dX5_catchUp_18 : decode cX5_catchUp 18 = .ok (.getfield 50, 3) := by decide +kernel
theorem dX5_catchUp_21 : decode cX5_catchUp 21 = .ok (.iload_n 1, 1) := by decide +kernel
theorem dX5_catchUp_22 : decode cX5_catchUp 22 = .ok (.iaload, 1) := by decide +kernel
theorem dX5_catchUp_23 : decode cX5_catchUp 23 = .ok (.istore 4, 2) := by decide +kernel
theorem dX5_catchUp_25 : decode cX5_catchUp 25 = .ok (.aload_n 0, 1) := by decide +kernel
theorem dX5_catchUp_26 : decode cX5_catchUp 26 = .ok (.iload_n 1, 1) := by decide +kernel
theorem dX5_catchUp_27 : decode cX5_catchUp 27 = .ok (.iload 4, 2) := by decide +kernel
theorem dX5_catchUp_29 : decode cX5_catchUp 29 = .ok (.invokevirtual 94, 3) := by decide +kernel
theorem dX5_catchUp_32 : decode cX5_catchUp 32 = .ok (.aload_n 0, 1) := by decide +kernel
theorem dX5_catchUp_33 : decode cX5_catchUp 33 = .ok (.getfield 50, 3) := by decide +kernel
theorem dX5_catchUp_36 : decode cX5_catchUp 36 = .ok (.iload_n 1, 1) := by decide +kernel
theorem dX5_catchUp_37 : decode cX5_catchUp 37 = .ok (.dup2, 1) := by decide +kernel
theorem dX5_catchUp_38 : decode cX5_catchUp 38 = .ok (.iaload, 1) := by decide +kernel
theorem dX5_catchUp_39 : decode cX5_catchUp 39 = .ok (.iconst 1, 1) := by decide +kernel
theorem dX5_catchUp_40 : decode cX5_catchUp 40 = .ok (.iadd, 1) := by decide +kernel
theorem dX5_catchUp_41 : decode cX5_catchUp 41 = .ok (.iastore, 1) := by decide +kernel
theorem dX5_catchUp_42 : decode cX5_catchUp 42 = .ok (.aload_n 0, 1) := by decide +kernel
theorem dX5_catchUp_43 : decode cX5_catchUp 43 = .ok (.getfield 13, 3) := by decide +kernel
theorem dX5_catchUp_46 : decode cX5_catchUp 46 = .ok (.iload 4, 2) := by decide +kernel
theorem dX5_catchUp_48 : decode cX5_catchUp 48 = .ok (.iaload, 1) := by decide +kernel
theorem dX5_catchUp_49 : decode cX5_catchUp 49 = .ok (.istore 5, 2) := by decide +kernel
theorem dX5_catchUp_51 : decode cX5_catchUp 51 = .ok (.aload_n 0, 1) := by decide +kernel
theorem dX5_catchUp_52 : decode cX5_catchUp 52 = .ok (.getfield 7, 3) := by decide +kernel
theorem dX5_catchUp_55 : decode cX5_catchUp 55 = .ok (.iload 4, 2) := by decide +kernel
theorem dX5_catchUp_57 : decode cX5_catchUp 57 = .ok (.iaload, 1) := by decide +kernel
theorem dX5_catchUp_58 : decode cX5_catchUp 58 = .ok (.ifCond .eq 15, 3) := by decide +kernel
theorem dX5_catchUp_61 : decode cX5_catchUp 61 = .ok (.aload_n 0, 1) := by decide +kernel
theorem dX5_catchUp_62 : decode cX5_catchUp 62 = .ok (.getfield 7, 3) := by decide +kernel
theorem dX5_catchUp_65 : decode cX5_catchUp 65 = .ok (.iload 4, 2) := by decide +kernel
theorem dX5_catchUp_67 : decode cX5_catchUp 67 = .ok (.iaload, 1) := by decide +kernel
theorem dX5_catchUp_68 : decode cX5_catchUp 68 = .ok (.bipush 6, 2) := by decide +kernel
theorem dX5_catchUp_70 : decode cX5_catchUp 70 = .ok (.if_icmp .ne 56, 3) := by decide +kernel
theorem dX5_catchUp_73 : decode cX5_catchUp 73 = .ok (.aload_n 0, 1) := by decide +kernel
theorem dX5_catchUp_74 : decode cX5_catchUp 74 = .ok (.getfield 7, 3) := by decide +kernel
theorem dX5_catchUp_77 : decode cX5_catchUp 77 = .ok (.iload 4, 2) := by decide +kernel
theorem dX5_catchUp_79 : decode cX5_catchUp 79 = .ok (.iaload, 1) := by decide +kernel
theorem dX5_catchUp_80 : decode cX5_catchUp 80 = .ok (.ifCond .ne 7, 3) := by decide +kernel
theorem dX5_catchUp_83 : decode cX5_catchUp 83 = .ok (.iconst (-1), 1) := by decide +kernel
theorem dX5_catchUp_84 : decode cX5_catchUp 84 = .ok (.goto 10, 3) := by decide +kernel
theorem dX5_catchUp_87 : decode cX5_catchUp 87 = .ok (.aload_n 0, 1) := by decide +kernel
theorem dX5_catchUp_88 : decode cX5_catchUp 88 = .ok (.getfield 16, 3) := by decide +kernel
theorem dX5_catchUp_91 : decode cX5_catchUp 91 = .ok (.iload 4, 2) := by decide +kernel
theorem dX5_catchUp_93 : decode cX5_catchUp 93 = .ok (.iaload, 1) := by decide +kernel
theorem dX5_catchUp_94 : decode cX5_catchUp 94 = .ok (.istore 6, 2) := by decide +kernel
theorem dX5_catchUp_96 : decode cX5_catchUp 96 = .ok (.aload_n 0, 1) := by decide +kernel
theorem dX5_catchUp_97 : decode cX5_catchUp 97 = .ok (.getfield 47, 3) := by decide +kernel
theorem dX5_catchUp_100 : decode cX5_catchUp 100 = .ok (.bipush 16, 2) := by decide +kernel
theorem dX5_catchUp_102 : decode cX5_catchUp 102 = .ok (.iload_n 1, 1) := by decide +kernel
theorem dX5_catchUp_103 : decode cX5_catchUp 103 = .ok (.imul, 1) := by decide +kernel
theorem dX5_catchUp_104 : decode cX5_catchUp 104 = .ok (.iload 5, 2) := by decide +kernel
theorem dX5_catchUp_106 : decode cX5_catchUp 106 = .ok (.iadd, 1) := by decide +kernel
theorem dX5_catchUp_107 : decode cX5_catchUp 107 = .ok (.iload 6, 2) := by decide +kernel
theorem dX5_catchUp_109 : decode cX5_catchUp 109 = .ok (.iastore, 1) := by decide +kernel
theorem dX5_catchUp_110 : decode cX5_catchUp 110 = .ok (.aload_n 0, 1) := by decide +kernel
theorem dX5_catchUp_111 : decode cX5_catchUp 111 = .ok (.getfield 47, 3) := by decide +kernel
theorem dX5_catchUp_114 : decode cX5_catchUp 114 = .ok (.bipush 16, 2) := by decide +kernel
theorem dX5_catchUp_116 : decode cX5_catchUp 116 = .ok (.iconst 3, 1) := by decide +kernel
theorem dX5_catchUp_117 : decode cX5_catchUp 117 = .ok (.iload_n 1, 1) := by decide +kernel
theorem dX5_catchUp_118 : decode cX5_catchUp 118 = .ok (.iadd, 1) := by decide +kernel
theorem dX5_catchUp_119 : decode cX5_catchUp 119 = .ok (.imul, 1) := by decide +kernel
theorem dX5_catchUp_120 : decode cX5_catchUp 120 = .ok (.iload 5, 2) := by decide +kernel
theorem dX5_catchUp_122 : decode cX5_catchUp 122 = .ok (.iadd, 1) := by decide +kernel
theorem dX5_catchUp_123 : decode cX5_catchUp 123 = .ok (.iload 6, 2) := by decide +kernel
theorem dX5_catchUp_125 : decode cX5_catchUp 125 = .ok (.iastore, 1) := by decide +kernel
theorem dX5_catchUp_126 : decode cX5_catchUp 126 = .ok (.goto (-119), 3) := by decide +kernel
theorem dX5_catchUp_129 : decode cX5_catchUp 129 = .ok (.aload_n 0, 1) := by decide +kernel
theorem dX5_catchUp_130 : decode cX5_catchUp 130 = .ok (.getfield 50, 3) := by decide +kernel
theorem dX5_catchUp_133 : decode cX5_catchUp 133 = .ok (.iload_n 1, 1) := by decide +kernel
theorem dX5_catchUp_134 : decode cX5_catchUp 134 = .ok (.iaload, 1) := by decide +kernel
theorem dX5_catchUp_135 : decode cX5_catchUp 135 = .ok (.iload_n 3, 1) := by decide +kernel
theorem dX5_catchUp_136 : decode cX5_catchUp 136 = .ok (.if_icmp .le 13, 3) := by decide +kernel
theorem dX5_catchUp_139 : decode cX5_catchUp 139 = .ok (.aload_n 0, 1) := by decide +kernel
theorem dX5_catchUp_140 : decode cX5_catchUp 140 = .ok (.iload_n 1, 1) := by decide +kernel
theorem dX5_catchUp_141 : decode cX5_catchUp 141 = .ok (.invokevirtual 146, 3) := by decide +kernel
theorem dX5_catchUp_144 : decode cX5_catchUp 144 = .ok (.aload_n 0, 1) := by decide +kernel
theorem dX5_catchUp_145 : decode cX5_catchUp 145 = .ok (.iload_n 1, 1) := by decide +kernel
theorem dX5_catchUp_146 : decode cX5_catchUp 146 = .ok (.invokevirtual 132, 3) := by decide +kernel
theorem dX5_catchUp_149 : decode cX5_catchUp 149 = .ok (.aload_n 0, 1) := by decide +kernel
theorem dX5_catchUp_150 : decode cX5_catchUp 150 = .ok (.getfield 50, 3) := by decide +kernel
theorem dX5_catchUp_153 : decode cX5_catchUp 153 = .ok (.iload_n 1, 1) := by decide +kernel
theorem dX5_catchUp_154 : decode cX5_catchUp 154 = .ok (.iaload, 1) := by decide +kernel
theorem dX5_catchUp_155 : decode cX5_catchUp 155 = .ok (.iload_n 3, 1) := by decide +kernel
theorem dX5_catchUp_156 : decode cX5_catchUp 156 = .ok (.isub, 1) := by decide +kernel
theorem dX5_catchUp_157 : decode cX5_catchUp 157 = .ok (.ireturn, 1) := by decide +kernel
theorem dX5_take_0 : decode cX5_take 0 = .ok (.aload_n 0, 1) := by decide +kernel
theorem dX5_take_1 : decode cX5_take 1 = .ok (.iload_n 1, 1) := by decide +kernel
theorem dX5_take_2 : decode cX5_take 2 = .ok (.invokevirtual 149, 3) := by decide +kernel
theorem dX5_take_5 : decode cX5_take 5 = .ok (.ifCond .eq 15, 3) := by decide +kernel
theorem dX5_take_8 : decode cX5_take 8 = .ok (.iload_n 2, 1) := by decide +kernel
theorem dX5_take_9 : decode cX5_take 9 = .ok (.iconst 0, 1) := by decide +kernel
theorem dX5_take_10 : decode cX5_take 10 = .ok (.aload_n 0, 1) := by decide +kernel
theorem dX5_take_11 : decode cX5_take 11 = .ok (.getfield 97, 3) := by decide +kernel
theorem dX5_take_14 : decode cX5_take 14 = .ok (.invokestatic 101, 3) := by decide +kernel
theorem dX5_take_17 : decode cX5_take 17 = .ok (.ifCond .ne 8, 3) := by decide +kernel
theorem dX5_take_20 : decode cX5_take 20 = .ok (.bipush (-2), 2) := by decide +kernel
theorem dX5_take_22 : decode cX5_take 22 = .ok (.goto 9, 3) := by decide +kernel
theorem dX5_take_25 : decode cX5_take 25 = .ok (.aload_n 0, 1) := by decide +kernel
theorem dX5_take_26 : decode cX5_take 26 = .ok (.iload_n 1, 1) := by decide +kernel
theorem dX5_take_27 : decode cX5_take 27 = .ok (.iload_n 2, 1) := by decide +kernel
theorem dX5_take_28 : decode cX5_take 28 = .ok (.invokevirtual 152, 3) := by decide +kernel
theorem dX5_take_31 : decode cX5_take 31 = .ok (.ireturn, 1) := by decide +kernel
theorem dX5_nth_0 : decode cX5_nth 0 = .ok (.iload_n 2, 1) := by decide +kernel
theorem dX5_nth_1 : decode cX5_nth 1 = .ok (.istore_n 3, 1) := by decide +kernel
theorem dX5_nth_2 : decode cX5_nth 2 = .ok (.iconst 0, 1) := by decide +kernel
theorem dX5_nth_3 : decode cX5_nth 3 = .ok (.istore 4, 2) := by decide +kernel
theorem dX5_nth_5 : decode cX5_nth 5 = .ok (.aload_n 0, 1) := by decide +kernel
theorem dX5_nth_6 : decode cX5_nth 6 = .ok (.iload_n 1, 1) := by decide +kernel
theorem dX5_nth_7 : decode cX5_nth 7 = .ok (.iload 4, 2) := by decide +kernel
theorem dX5_nth_9 : decode cX5_nth 9 = .ok (.invokevirtual 156, 3) := by decide +kernel
theorem dX5_nth_12 : decode cX5_nth 12 = .ok (.ifCond .eq 7, 3) := by decide +kernel
theorem dX5_nth_15 : decode cX5_nth 15 = .ok (.iload_n 3, 1) := by decide +kernel
theorem dX5_nth_16 : decode cX5_nth 16 = .ok (.ifCond .le 27, 3) := by decide +kernel
theorem dX5_nth_19 : decode cX5_nth 19 = .ok (.iload_n 3, 1) := by decide +kernel
theorem dX5_nth_20 : decode cX5_nth 20 = .ok (.aload_n 0, 1) := by decide +kernel
theorem dX5_nth_21 : decode cX5_nth 21 = .ok (.iload_n 1, 1) := by decide +kernel
theorem dX5_nth_22 : decode cX5_nth 22 = .ok (.iload 4, 2) := by decide +kernel
theorem dX5_nth_24 : decode cX5_nth 24 = .ok (.invokevirtual 156, 3) := by decide +kernel
theorem dX5_nth_27 : decode cX5_nth 27 = .ok (.ifCond .eq 7, 3) := by decide +kernel
theorem dX5_nth_30 : decode cX5_nth 30 = .ok (.iconst 1, 1) := by decide +kernel
theorem dX5_nth_31 : decode cX5_nth 31 = .ok (.goto 4, 3) := by decide +kernel
theorem dX5_nth_34 : decode cX5_nth 34 = .ok (.iconst 0, 1) := by decide +kernel
theorem dX5_nth_35 : decode cX5_nth 35 = .ok (.isub, 1) := by decide +kernel
theorem dX5_nth_36 : decode cX5_nth 36 = .ok (.istore_n 3, 1) := by decide +kernel
theorem dX5_nth_37 : decode cX5_nth 37 = .ok (.iinc 4 1, 3) := by decide +kernel
theorem dX5_nth_40 : decode cX5_nth 40 = .ok (.goto (-35), 3) := by decide +kernel
theorem dX5_nth_43 : decode cX5_nth 43 = .ok (.iload 4, 2) := by decide +kernel
theorem dX5_nth_45 : decode cX5_nth 45 = .ok (.ireturn, 1) := by decide +kernel
theorem dX5_isFree_0 : decode cX5_isFree 0 = .ok (.aload_n 0, 1) := by decide +kernel
theorem dX5_isFree_1 : decode cX5_isFree 1 = .ok (.getfield 25, 3) := by decide +kernel
theorem dX5_isFree_4 : decode cX5_isFree 4 = .ok (.bipush 16, 2) := by decide +kernel
theorem dX5_isFree_6 : decode cX5_isFree 6 = .ok (.iload_n 1, 1) := by decide +kernel
theorem dX5_isFree_7 : decode cX5_isFree 7 = .ok (.imul, 1) := by decide +kernel
theorem dX5_isFree_8 : decode cX5_isFree 8 = .ok (.iload_n 2, 1) := by decide +kernel
theorem dX5_isFree_9 : decode cX5_isFree 9 = .ok (.iadd, 1) := by decide +kernel
theorem dX5_isFree_10 : decode cX5_isFree 10 = .ok (.baload, 1) := by decide +kernel
theorem dX5_isFree_11 : decode cX5_isFree 11 = .ok (.ifCond .eq 23, 3) := by decide +kernel
theorem dX5_isFree_14 : decode cX5_isFree 14 = .ok (.aload_n 0, 1) := by decide +kernel
theorem dX5_isFree_15 : decode cX5_isFree 15 = .ok (.getfield 38, 3) := by decide +kernel
theorem dX5_isFree_18 : decode cX5_isFree 18 = .ok (.bipush 16, 2) := by decide +kernel
theorem dX5_isFree_20 : decode cX5_isFree 20 = .ok (.iload_n 1, 1) := by decide +kernel
theorem dX5_isFree_21 : decode cX5_isFree 21 = .ok (.imul, 1) := by decide +kernel
theorem dX5_isFree_22 : decode cX5_isFree 22 = .ok (.iload_n 2, 1) := by decide +kernel
theorem dX5_isFree_23 : decode cX5_isFree 23 = .ok (.iadd, 1) := by decide +kernel
theorem dX5_isFree_24 : decode cX5_isFree 24 = .ok (.iaload, 1) := by decide +kernel
theorem dX5_isFree_25 : decode cX5_isFree 25 = .ok (.bipush (-2), 2) := by decide +kernel
theorem dX5_isFree_27 : decode cX5_isFree 27 = .ok (.if_icmp .ne 7, 3) := by decide +kernel
theorem dX5_isFree_30 : decode cX5_isFree 30 = .ok (.iconst 1, 1) := by decide +kernel
theorem dX5_isFree_31 : decode cX5_isFree 31 = .ok (.goto 4, 3) := by decide +kernel
theorem dX5_isFree_34 : decode cX5_isFree 34 = .ok (.iconst 0, 1) := by decide +kernel
theorem dX5_isFree_35 : decode cX5_isFree 35 = .ok (.ireturn, 1) := by decide +kernel
theorem dX5_attempt_0 : decode cX5_attempt 0 = .ok (.aload_n 0, 1) := by decide +kernel
theorem dX5_attempt_1 : decode cX5_attempt 1 = .ok (.getfield 56, 3) := by decide +kernel
theorem dX5_attempt_4 : decode cX5_attempt 4 = .ok (.iload_n 1, 1) := by decide +kernel
theorem dX5_attempt_5 : decode cX5_attempt 5 = .ok (.iaload, 1) := by decide +kernel
theorem dX5_attempt_6 : decode cX5_attempt 6 = .ok (.istore_n 2, 1) := by decide +kernel
theorem dX5_attempt_7 : decode cX5_attempt 7 = .ok (.iconst 0, 1) := by decide +kernel
theorem dX5_attempt_8 : decode cX5_attempt 8 = .ok (.istore_n 3, 1) := by decide +kernel
theorem dX5_attempt_9 : decode cX5_attempt 9 = .ok (.iconst 0, 1) := by decide +kernel
theorem dX5_attempt_10 : decode cX5_attempt 10 = .ok (.istore 4, 2) := by decide +kernel
theorem dX5_attempt_12 : decode cX5_attempt 12 = .ok (.iload 4, 2) := by decide +kernel
theorem dX5_attempt_14 : decode cX5_attempt 14 = .ok (.bipush 16, 2) := by decide +kernel
theorem dX5_attempt_16 : decode cX5_attempt 16 = .ok (.if_icmp .ge 27, 3) := by decide +kernel
theorem dX5_attempt_19 : decode cX5_attempt 19 = .ok (.iload_n 3, 1) := by decide +kernel
theorem dX5_attempt_20 : decode cX5_attempt 20 = .ok (.aload_n 0, 1) := by decide +kernel
theorem dX5_attempt_21 : decode cX5_attempt 21 = .ok (.iload_n 1, 1) := by decide +kernel
theorem dX5_attempt_22 : decode cX5_attempt 22 = .ok (.iload 4, 2) := by decide +kernel
theorem dX5_attempt_24 : decode cX5_attempt 24 = .ok (.invokevirtual 156, 3) := by decide +kernel
theorem dX5_attempt_27 : decode cX5_attempt 27 = .ok (.ifCond .eq 7, 3) := by decide +kernel
theorem dX5_attempt_30 : decode cX5_attempt 30 = .ok (.iconst 1, 1) := by decide +kernel
theorem dX5_attempt_31 : decode cX5_attempt 31 = .ok (.goto 4, 3) := by decide +kernel
theorem dX5_attempt_34 : decode cX5_attempt 34 = .ok (.iconst 0, 1) := by decide +kernel
theorem dX5_attempt_35 : decode cX5_attempt 35 = .ok (.iadd, 1) := by decide +kernel
theorem dX5_attempt_36 : decode cX5_attempt 36 = .ok (.istore_n 3, 1) := by decide +kernel
theorem dX5_attempt_37 : decode cX5_attempt 37 = .ok (.iinc 4 1, 3) := by decide +kernel
theorem dX5_attempt_40 : decode cX5_attempt 40 = .ok (.goto (-28), 3) := by decide +kernel
theorem dX5_attempt_43 : decode cX5_attempt 43 = .ok (.iload_n 3, 1) := by decide +kernel
theorem dX5_attempt_44 : decode cX5_attempt 44 = .ok (.ifCond .ne 4, 3) := by decide +kernel
theorem dX5_attempt_47 : decode cX5_attempt 47 = .ok (.return_, 1) := by decide +kernel
theorem dX5_attempt_48 : decode cX5_attempt 48 = .ok (.aload_n 0, 1) := by decide +kernel
theorem dX5_attempt_49 : decode cX5_attempt 49 = .ok (.iload_n 1, 1) := by decide +kernel
theorem dX5_attempt_50 : decode cX5_attempt 50 = .ok (.bipush 6, 2) := by decide +kernel
theorem dX5_attempt_52 : decode cX5_attempt 52 = .ok (.invokevirtual 143, 3) := by decide +kernel
theorem dX5_attempt_55 : decode cX5_attempt 55 = .ok (.aload_n 0, 1) := by decide +kernel
theorem dX5_attempt_56 : decode cX5_attempt 56 = .ok (.iload_n 1, 1) := by decide +kernel
theorem dX5_attempt_57 : decode cX5_attempt 57 = .ok (.iload_n 2, 1) := by decide +kernel
theorem dX5_attempt_58 : decode cX5_attempt 58 = .ok (.bipush 16, 2) := by decide +kernel
theorem dX5_attempt_60 : decode cX5_attempt 60 = .ok (.iushr, 1) := by decide +kernel
theorem dX5_attempt_61 : decode cX5_attempt 61 = .ok (.iload_n 3, 1) := by decide +kernel
theorem dX5_attempt_62 : decode cX5_attempt 62 = .ok (.irem, 1) := by decide +kernel
theorem dX5_attempt_63 : decode cX5_attempt 63 = .ok (.invokevirtual 160, 3) := by decide +kernel
theorem dX5_attempt_66 : decode cX5_attempt 66 = .ok (.istore 4, 2) := by decide +kernel
theorem dX5_attempt_68 : decode cX5_attempt 68 = .ok (.iload_n 2, 1) := by decide +kernel
theorem dX5_attempt_69 : decode cX5_attempt 69 = .ok (.bipush 8, 2) := by decide +kernel
theorem dX5_attempt_71 : decode cX5_attempt 71 = .ok (.iushr, 1) := by decide +kernel
theorem dX5_attempt_72 : decode cX5_attempt 72 = .ok (.iconst 4, 1) := by decide +kernel
theorem dX5_attempt_73 : decode cX5_attempt 73 = .ok (.irem, 1) := by decide +kernel
theorem dX5_attempt_74 : decode cX5_attempt 74 = .ok (.iconst 3, 1) := by decide +kernel
theorem dX5_attempt_75 : decode cX5_attempt 75 = .ok (.if_icmp .ne 63, 3) := by decide +kernel
theorem dX5_attempt_78 : decode cX5_attempt 78 = .ok (.aload_n 0, 1) := by decide +kernel
theorem dX5_attempt_79 : decode cX5_attempt 79 = .ok (.iload_n 1, 1) := by decide +kernel
theorem dX5_attempt_80 : decode cX5_attempt 80 = .ok (.iload_n 2, 1) := by decide +kernel
theorem dX5_attempt_81 : decode cX5_attempt 81 = .ok (.bipush 20, 2) := by decide +kernel
theorem dX5_attempt_83 : decode cX5_attempt 83 = .ok (.iushr, 1) := by decide +kernel
theorem dX5_attempt_84 : decode cX5_attempt 84 = .ok (.iload_n 3, 1) := by decide +kernel
theorem dX5_attempt_85 : decode cX5_attempt 85 = .ok (.irem, 1) := by decide +kernel
theorem dX5_attempt_86 : decode cX5_attempt 86 = .ok (.invokevirtual 160, 3) := by decide +kernel
theorem dX5_attempt_89 : decode cX5_attempt 89 = .ok (.istore 5, 2) := by decide +kernel
theorem dX5_attempt_91 : decode cX5_attempt 91 = .ok (.aload_n 0, 1) := by decide +kernel
theorem dX5_attempt_92 : decode cX5_attempt 92 = .ok (.getfield 47, 3) := by decide +kernel
theorem dX5_attempt_95 : decode cX5_attempt 95 = .ok (.bipush 96, 2) := by decide +kernel
theorem dX5_attempt_97 : decode cX5_attempt 97 = .ok (.iload 4, 2) := by decide +kernel
theorem dX5_attempt_99 : decode cX5_attempt 99 = .ok (.iadd, 1) := by decide +kernel
theorem dX5_attempt_100 : decode cX5_attempt 100 = .ok (.aload_n 0, 1) := by decide +kernel
theorem dX5_attempt_101 : decode cX5_attempt 101 = .ok (.getfield 47, 3) := by decide +kernel
theorem dX5_attempt_104 : decode cX5_attempt 104 = .ok (.bipush 16, 2) := by decide +kernel
theorem dX5_attempt_106 : decode cX5_attempt 106 = .ok (.iload_n 1, 1) := by decide +kernel
theorem dX5_attempt_107 : decode cX5_attempt 107 = .ok (.imul, 1) := by decide +kernel
theorem dX5_attempt_108 : decode cX5_attempt 108 = .ok (.iload 5, 2) := by decide +kernel
theorem dX5_attempt_110 : decode cX5_attempt 110 = .ok (.iadd, 1) := by decide +kernel
theorem dX5_attempt_111 : decode cX5_attempt 111 = .ok (.iaload, 1) := by decide +kernel
theorem dX5_attempt_112 : decode cX5_attempt 112 = .ok (.iastore, 1) := by decide +kernel
theorem dX5_attempt_113 : decode cX5_attempt 113 = .ok (.aload_n 0, 1) := by decide +kernel
theorem dX5_attempt_114 : decode cX5_attempt 114 = .ok (.getfield 47, 3) := by decide +kernel
theorem dX5_attempt_117 : decode cX5_attempt 117 = .ok (.bipush 96, 2) := by decide +kernel
theorem dX5_attempt_119 : decode cX5_attempt 119 = .ok (.iload 5, 2) := by decide +kernel
theorem dX5_attempt_121 : decode cX5_attempt 121 = .ok (.iadd, 1) := by decide +kernel
theorem dX5_attempt_122 : decode cX5_attempt 122 = .ok (.aload_n 0, 1) := by decide +kernel
theorem dX5_attempt_123 : decode cX5_attempt 123 = .ok (.getfield 47, 3) := by decide +kernel
theorem dX5_attempt_126 : decode cX5_attempt 126 = .ok (.bipush 16, 2) := by decide +kernel
theorem dX5_attempt_128 : decode cX5_attempt 128 = .ok (.iload_n 1, 1) := by decide +kernel
theorem dX5_attempt_129 : decode cX5_attempt 129 = .ok (.imul, 1) := by decide +kernel
theorem dX5_attempt_130 : decode cX5_attempt 130 = .ok (.iload 4, 2) := by decide +kernel
theorem dX5_attempt_132 : decode cX5_attempt 132 = .ok (.iadd, 1) := by decide +kernel
theorem dX5_attempt_133 : decode cX5_attempt 133 = .ok (.iaload, 1) := by decide +kernel
theorem dX5_attempt_134 : decode cX5_attempt 134 = .ok (.iastore, 1) := by decide +kernel
theorem dX5_attempt_135 : decode cX5_attempt 135 = .ok (.goto 35, 3) := by decide +kernel
theorem dX5_attempt_138 : decode cX5_attempt 138 = .ok (.iload_n 2, 1) := by decide +kernel
theorem dX5_attempt_139 : decode cX5_attempt 139 = .ok (.bipush 24, 2) := by decide +kernel
theorem dX5_attempt_141 : decode cX5_attempt 141 = .ok (.iushr, 1) := by decide +kernel
theorem dX5_attempt_142 : decode cX5_attempt 142 = .ok (.bipush 7, 2) := by decide +kernel
theorem dX5_attempt_144 : decode cX5_attempt 144 = .ok (.irem, 1) := by decide +kernel
theorem dX5_attempt_145 : decode cX5_attempt 145 = .ok (.istore 5, 2) := by decide +kernel
theorem dX5_attempt_147 : decode cX5_attempt 147 = .ok (.aload_n 0, 1) := by decide +kernel
theorem dX5_attempt_148 : decode cX5_attempt 148 = .ok (.getfield 47, 3) := by decide +kernel
theorem dX5_attempt_151 : decode cX5_attempt 151 = .ok (.bipush 96, 2) := by decide +kernel
theorem dX5_attempt_153 : decode cX5_attempt 153 = .ok (.iload 4, 2) := by decide +kernel
theorem dX5_attempt_155 : decode cX5_attempt 155 = .ok (.iadd, 1) := by decide +kernel
theorem dX5_attempt_156 : decode cX5_attempt 156 = .ok (.iload 5, 2) := by decide +kernel
theorem dX5_attempt_158 : decode cX5_attempt 158 = .ok (.bipush 6, 2) := by decide +kernel
theorem dX5_attempt_160 : decode cX5_attempt 160 = .ok (.if_icmp .ne 7, 3) := by decide +kernel
theorem dX5_attempt_163 : decode cX5_attempt 163 = .ok (.iconst (-1), 1) := by decide +kernel
theorem dX5_attempt_164 : decode cX5_attempt 164 = .ok (.goto 5, 3) := by decide +kernel
theorem dX5_attempt_167 : decode cX5_attempt 167 = .ok (.iload 5, 2) := by decide +kernel
theorem dX5_attempt_169 : decode cX5_attempt 169 = .ok (.iastore, 1) := by decide +kernel
theorem dX5_attempt_170 : decode cX5_attempt 170 = .ok (.aload_n 0, 1) := by decide +kernel
theorem dX5_attempt_171 : decode cX5_attempt 171 = .ok (.iload_n 1, 1) := by decide +kernel
theorem dX5_attempt_172 : decode cX5_attempt 172 = .ok (.iload_n 1, 1) := by decide +kernel
theorem dX5_attempt_173 : decode cX5_attempt 173 = .ok (.iload_n 1, 1) := by decide +kernel
theorem dX5_attempt_174 : decode cX5_attempt 174 = .ok (.invokevirtual 135, 3) := by decide +kernel
theorem dX5_attempt_177 : decode cX5_attempt 177 = .ok (.aload_n 0, 1) := by decide +kernel
theorem dX5_attempt_178 : decode cX5_attempt 178 = .ok (.getfield 119, 3) := by decide +kernel
theorem dX5_attempt_181 : decode cX5_attempt 181 = .ok (.istore 5, 2) := by decide +kernel
theorem dX5_attempt_183 : decode cX5_attempt 183 = .ok (.aload_n 0, 1) := by decide +kernel
theorem dX5_attempt_184 : decode cX5_attempt 184 = .ok (.getfield 122, 3) := by decide +kernel
theorem dX5_attempt_187 : decode cX5_attempt 187 = .ok (.istore 6, 2) := by decide +kernel
theorem dX5_attempt_189 : decode cX5_attempt 189 = .ok (.aload_n 0, 1) := by decide +kernel
theorem dX5_attempt_190 : decode cX5_attempt 190 = .ok (.bipush 6, 2) := by decide +kernel
theorem dX5_attempt_192 : decode cX5_attempt 192 = .ok (.iload_n 1, 1) := by decide +kernel
theorem dX5_attempt_193 : decode cX5_attempt 193 = .ok (.iload_n 1, 1) := by decide +kernel
theorem dX5_attempt_194 : decode cX5_attempt 194 = .ok (.invokevirtual 135, 3) := by decide +kernel
theorem dX5_attempt_197 : decode cX5_attempt 197 = .ok (.bipush 8, 2) := by decide +kernel
theorem dX5_attempt_199 : decode cX5_attempt 199 = .ok (.iload_n 1, 1) := by decide +kernel
theorem dX5_attempt_200 : decode cX5_attempt 200 = .ok (.imul, 1) := by decide +kernel
theorem dX5_attempt_201 : decode cX5_attempt 201 = .ok (.aload_n 0, 1) := by decide +kernel
theorem dX5_attempt_202 : decode cX5_attempt 202 = .ok (.getfield 53, 3) := by decide +kernel
theorem dX5_attempt_205 : decode cX5_attempt 205 = .ok (.iload_n 1, 1) := by decide +kernel
theorem dX5_attempt_206 : decode cX5_attempt 206 = .ok (.iaload, 1) := by decide +kernel
theorem dX5_attempt_207 : decode cX5_attempt 207 = .ok (.aload_n 0, 1) := by decide +kernel
theorem dX5_attempt_208 : decode cX5_attempt 208 = .ok (.getfield 59, 3) := by decide +kernel
theorem dX5_attempt_211 : decode cX5_attempt 211 = .ok (.iload_n 1, 1) := by decide +kernel
theorem dX5_attempt_212 : decode cX5_attempt 212 = .ok (.iaload, 1) := by decide +kernel
theorem dX5_attempt_213 : decode cX5_attempt 213 = .ok (.irem, 1) := by decide +kernel
theorem dX5_attempt_214 : decode cX5_attempt 214 = .ok (.iadd, 1) := by decide +kernel
theorem dX5_attempt_215 : decode cX5_attempt 215 = .ok (.istore 7, 2) := by decide +kernel
theorem dX5_attempt_217 : decode cX5_attempt 217 = .ok (.iload 5, 2) := by decide +kernel
theorem dX5_attempt_219 : decode cX5_attempt 219 = .ok (.iload 6, 2) := by decide +kernel
theorem dX5_attempt_221 : decode cX5_attempt 221 = .ok (.aload_n 0, 1) := by decide +kernel
theorem dX5_attempt_222 : decode cX5_attempt 222 = .ok (.getfield 119, 3) := by decide +kernel
theorem dX5_attempt_225 : decode cX5_attempt 225 = .ok (.aload_n 0, 1) := by decide +kernel
theorem dX5_attempt_226 : decode cX5_attempt 226 = .ok (.getfield 122, 3) := by decide +kernel
theorem dX5_attempt_229 : decode cX5_attempt 229 = .ok (.invokestatic 139, 3) := by decide +kernel
theorem dX5_attempt_232 : decode cX5_attempt 232 = .ok (.ifCond .eq 31, 3) := by decide +kernel
theorem dX5_attempt_235 : decode cX5_attempt 235 = .ok (.aload_n 0, 1) := by decide +kernel
theorem dX5_attempt_236 : decode cX5_attempt 236 = .ok (.getfield 62, 3) := by decide +kernel
theorem dX5_attempt_239 : decode cX5_attempt 239 = .ok (.iload 7, 2) := by decide +kernel
theorem dX5_attempt_241 : decode cX5_attempt 241 = .ok (.iaload, 1) := by decide +kernel
theorem dX5_attempt_242 : decode cX5_attempt 242 = .ok (.aload_n 0, 1) := by decide +kernel
theorem dX5_attempt_243 : decode cX5_attempt 243 = .ok (.getfield 65, 3) := by decide +kernel
theorem dX5_attempt_246 : decode cX5_attempt 246 = .ok (.iload 7, 2) := by decide +kernel
theorem dX5_attempt_248 : decode cX5_attempt 248 = .ok (.iaload, 1) := by decide +kernel
theorem dX5_attempt_249 : decode cX5_attempt 249 = .ok (.aload_n 0, 1) := by decide +kernel
theorem dX5_attempt_250 : decode cX5_attempt 250 = .ok (.getfield 119, 3) := by decide +kernel
theorem dX5_attempt_253 : decode cX5_attempt 253 = .ok (.aload_n 0, 1) := by decide +kernel
theorem dX5_attempt_254 : decode cX5_attempt 254 = .ok (.getfield 122, 3) := by decide +kernel
theorem dX5_attempt_257 : decode cX5_attempt 257 = .ok (.invokestatic 139, 3) := by decide +kernel
theorem dX5_attempt_260 : decode cX5_attempt 260 = .ok (.ifCond .ne 20, 3) := by decide +kernel
theorem dX5_attempt_263 : decode cX5_attempt 263 = .ok (.aload_n 0, 1) := by decide +kernel
theorem dX5_attempt_264 : decode cX5_attempt 264 = .ok (.bipush 6, 2) := by decide +kernel
theorem dX5_attempt_266 : decode cX5_attempt 266 = .ok (.iload_n 1, 1) := by decide +kernel
theorem dX5_attempt_267 : decode cX5_attempt 267 = .ok (.invokevirtual 143, 3) := by decide +kernel
theorem dX5_attempt_270 : decode cX5_attempt 270 = .ok (.aload_n 0, 1) := by decide +kernel
theorem dX5_attempt_271 : decode cX5_attempt 271 = .ok (.getfield 68, 3) := by decide +kernel
theorem dX5_attempt_274 : decode cX5_attempt 274 = .ok (.iload_n 1, 1) := by decide +kernel
theorem dX5_attempt_275 : decode cX5_attempt 275 = .ok (.dup2, 1) := by decide +kernel
theorem dX5_attempt_276 : decode cX5_attempt 276 = .ok (.iaload, 1) := by decide +kernel
theorem dX5_attempt_277 : decode cX5_attempt 277 = .ok (.iconst 1, 1) := by decide +kernel
theorem dX5_attempt_278 : decode cX5_attempt 278 = .ok (.iadd, 1) := by decide +kernel
theorem dX5_attempt_279 : decode cX5_attempt 279 = .ok (.iastore, 1) := by decide +kernel
theorem dX5_attempt_280 : decode cX5_attempt 280 = .ok (.return_, 1) := by decide +kernel
theorem dX5_step_0 : decode cX5_step 0 = .ok (.aload_n 0, 1) := by decide +kernel
theorem dX5_step_1 : decode cX5_step 1 = .ok (.iload_n 1, 1) := by decide +kernel
theorem dX5_step_2 : decode cX5_step 2 = .ok (.invokevirtual 149, 3) := by decide +kernel
theorem dX5_step_5 : decode cX5_step 5 = .ok (.ifCond .eq 14, 3) := by decide +kernel
theorem dX5_step_8 : decode cX5_step 8 = .ok (.iload_n 2, 1) := by decide +kernel
theorem dX5_step_9 : decode cX5_step 9 = .ok (.iconst 0, 1) := by decide +kernel
theorem dX5_step_10 : decode cX5_step 10 = .ok (.sipush 200, 3) := by decide +kernel
theorem dX5_step_13 : decode cX5_step 13 = .ok (.invokestatic 101, 3) := by decide +kernel
theorem dX5_step_16 : decode cX5_step 16 = .ok (.ifCond .ne 6, 3) := by decide +kernel
theorem dX5_step_19 : decode cX5_step 19 = .ok (.bipush (-2), 2) := by decide +kernel
theorem dX5_step_21 : decode cX5_step 21 = .ok (.ireturn, 1) := by decide +kernel
theorem dX5_step_22 : decode cX5_step 22 = .ok (.aload_n 0, 1) := by decide +kernel
theorem dX5_step_23 : decode cX5_step 23 = .ok (.iload_n 1, 1) := by decide +kernel
theorem dX5_step_24 : decode cX5_step 24 = .ok (.aload_n 0, 1) := by decide +kernel
theorem dX5_step_25 : decode cX5_step 25 = .ok (.getfield 97, 3) := by decide +kernel
theorem dX5_step_28 : decode cX5_step 28 = .ok (.invokevirtual 152, 3) := by decide +kernel
theorem dX5_step_31 : decode cX5_step 31 = .ok (.istore_n 3, 1) := by decide +kernel
theorem dX5_step_32 : decode cX5_step 32 = .ok (.aload_n 0, 1) := by decide +kernel
theorem dX5_step_33 : decode cX5_step 33 = .ok (.getfield 68, 3) := by decide +kernel
theorem dX5_step_36 : decode cX5_step 36 = .ok (.iload_n 1, 1) := by decide +kernel
theorem dX5_step_37 : decode cX5_step 37 = .ok (.iaload, 1) := by decide +kernel
theorem dX5_step_38 : decode cX5_step 38 = .ok (.istore 4, 2) := by decide +kernel
theorem dX5_step_40 : decode cX5_step 40 = .ok (.iconst 0, 1) := by decide +kernel
theorem dX5_step_41 : decode cX5_step 41 = .ok (.istore 5, 2) := by decide +kernel
theorem dX5_step_43 : decode cX5_step 43 = .ok (.iload 5, 2) := by decide +kernel
theorem dX5_step_45 : decode cX5_step 45 = .ok (.iload_n 2, 1) := by decide +kernel
theorem dX5_step_46 : decode cX5_step 46 = .ok (.if_icmp .ge 97, 3) := by decide +kernel
theorem dX5_step_49 : decode cX5_step 49 = .ok (.aload_n 0, 1) := by decide +kernel
theorem dX5_step_50 : decode cX5_step 50 = .ok (.getfield 56, 3) := by decide +kernel
theorem dX5_step_53 : decode cX5_step 53 = .ok (.iload_n 1, 1) := by decide +kernel
theorem dX5_step_54 : decode cX5_step 54 = .ok (.aload_n 0, 1) := by decide +kernel
theorem dX5_step_55 : decode cX5_step 55 = .ok (.getfield 56, 3) := by decide +kernel
theorem dX5_step_58 : decode cX5_step 58 = .ok (.iload_n 1, 1) := by decide +kernel
theorem dX5_step_59 : decode cX5_step 59 = .ok (.iaload, 1) := by decide +kernel
theorem dX5_step_60 : decode cX5_step 60 = .ok (.ldc 163, 2) := by decide +kernel
theorem dX5_step_62 : decode cX5_step 62 = .ok (.imul, 1) := by decide +kernel
theorem dX5_step_63 : decode cX5_step 63 = .ok (.sipush 12345, 3) := by decide +kernel
theorem dX5_step_66 : decode cX5_step 66 = .ok (.iadd, 1) := by decide +kernel
theorem dX5_step_67 : decode cX5_step 67 = .ok (.iastore, 1) := by decide +kernel
theorem dX5_step_68 : decode cX5_step 68 = .ok (.aload_n 0, 1) := by decide +kernel
theorem dX5_step_69 : decode cX5_step 69 = .ok (.iload_n 1, 1) := by decide +kernel
theorem dX5_step_70 : decode cX5_step 70 = .ok (.invokevirtual 164, 3) := by decide +kernel
theorem dX5_step_73 : decode cX5_step 73 = .ok (.aload_n 0, 1) := by decide +kernel
theorem dX5_step_74 : decode cX5_step 74 = .ok (.iload_n 1, 1) := by decide +kernel
theorem dX5_step_75 : decode cX5_step 75 = .ok (.iload_n 1, 1) := by decide +kernel
theorem dX5_step_76 : decode cX5_step 76 = .ok (.iload_n 1, 1) := by decide +kernel
theorem dX5_step_77 : decode cX5_step 77 = .ok (.invokevirtual 135, 3) := by decide +kernel
theorem dX5_step_80 : decode cX5_step 80 = .ok (.bipush 8, 2) := by decide +kernel
theorem dX5_step_82 : decode cX5_step 82 = .ok (.iload_n 1, 1) := by decide +kernel
theorem dX5_step_83 : decode cX5_step 83 = .ok (.imul, 1) := by decide +kernel
theorem dX5_step_84 : decode cX5_step 84 = .ok (.aload_n 0, 1) := by decide +kernel
theorem dX5_step_85 : decode cX5_step 85 = .ok (.getfield 53, 3) := by decide +kernel
theorem dX5_step_88 : decode cX5_step 88 = .ok (.iload_n 1, 1) := by decide +kernel
theorem dX5_step_89 : decode cX5_step 89 = .ok (.iaload, 1) := by decide +kernel
theorem dX5_step_90 : decode cX5_step 90 = .ok (.aload_n 0, 1) := by decide +kernel
theorem dX5_step_91 : decode cX5_step 91 = .ok (.getfield 59, 3) := by decide +kernel
theorem dX5_step_94 : decode cX5_step 94 = .ok (.iload_n 1, 1) := by decide +kernel
theorem dX5_step_95 : decode cX5_step 95 = .ok (.iaload, 1) := by decide +kernel
theorem dX5_step_96 : decode cX5_step 96 = .ok (.irem, 1) := by decide +kernel
theorem dX5_step_97 : decode cX5_step 97 = .ok (.iadd, 1) := by decide +kernel
theorem dX5_step_98 : decode cX5_step 98 = .ok (.istore 6, 2) := by decide +kernel
theorem dX5_step_100 : decode cX5_step 100 = .ok (.aload_n 0, 1) := by decide +kernel
theorem dX5_step_101 : decode cX5_step 101 = .ok (.getfield 62, 3) := by decide +kernel
theorem dX5_step_104 : decode cX5_step 104 = .ok (.iload 6, 2) := by decide +kernel
theorem dX5_step_106 : decode cX5_step 106 = .ok (.aload_n 0, 1) := by decide +kernel
theorem dX5_step_107 : decode cX5_step 107 = .ok (.getfield 119, 3) := by decide +kernel
theorem dX5_step_110 : decode cX5_step 110 = .ok (.iastore, 1) := by decide +kernel
theorem dX5_step_111 : decode cX5_step 111 = .ok (.aload_n 0, 1) := by decide +kernel
theorem dX5_step_112 : decode cX5_step 112 = .ok (.getfield 65, 3) := by decide +kernel
theorem dX5_step_115 : decode cX5_step 115 = .ok (.iload 6, 2) := by decide +kernel
theorem dX5_step_117 : decode cX5_step 117 = .ok (.aload_n 0, 1) := by decide +kernel
theorem dX5_step_118 : decode cX5_step 118 = .ok (.getfield 122, 3) := by decide +kernel
theorem dX5_step_121 : decode cX5_step 121 = .ok (.iastore, 1) := by decide +kernel
theorem dX5_step_122 : decode cX5_step 122 = .ok (.aload_n 0, 1) := by decide +kernel
theorem dX5_step_123 : decode cX5_step 123 = .ok (.iload_n 1, 1) := by decide +kernel
theorem dX5_step_124 : decode cX5_step 124 = .ok (.invokevirtual 146, 3) := by decide +kernel
theorem dX5_step_127 : decode cX5_step 127 = .ok (.aload_n 0, 1) := by decide +kernel
theorem dX5_step_128 : decode cX5_step 128 = .ok (.getfield 53, 3) := by decide +kernel
theorem dX5_step_131 : decode cX5_step 131 = .ok (.iload_n 1, 1) := by decide +kernel
theorem dX5_step_132 : decode cX5_step 132 = .ok (.dup2, 1) := by decide +kernel
theorem dX5_step_133 : decode cX5_step 133 = .ok (.iaload, 1) := by decide +kernel
theorem dX5_step_134 : decode cX5_step 134 = .ok (.iconst 1, 1) := by decide +kernel
theorem dX5_step_135 : decode cX5_step 135 = .ok (.iadd, 1) := by decide +kernel
theorem dX5_step_136 : decode cX5_step 136 = .ok (.iastore, 1) := by decide +kernel
theorem dX5_step_137 : decode cX5_step 137 = .ok (.iinc 5 1, 3) := by decide +kernel
theorem dX5_step_140 : decode cX5_step 140 = .ok (.goto (-97), 3) := by decide +kernel
theorem dX5_step_143 : decode cX5_step 143 = .ok (.aload_n 0, 1) := by decide +kernel
theorem dX5_step_144 : decode cX5_step 144 = .ok (.getfield 68, 3) := by decide +kernel
theorem dX5_step_147 : decode cX5_step 147 = .ok (.iload_n 1, 1) := by decide +kernel
theorem dX5_step_148 : decode cX5_step 148 = .ok (.iaload, 1) := by decide +kernel
theorem dX5_step_149 : decode cX5_step 149 = .ok (.iload 4, 2) := by decide +kernel
theorem dX5_step_151 : decode cX5_step 151 = .ok (.isub, 1) := by decide +kernel
theorem dX5_step_152 : decode cX5_step 152 = .ok (.ireturn, 1) := by decide +kernel
theorem dX5_mark_0 : decode cX5_mark 0 = .ok (.aload_n 0, 1) := by decide +kernel
theorem dX5_mark_1 : decode cX5_mark 1 = .ok (.iload_n 1, 1) := by decide +kernel
theorem dX5_mark_2 : decode cX5_mark 2 = .ok (.invokevirtual 149, 3) := by decide +kernel
theorem dX5_mark_5 : decode cX5_mark 5 = .ok (.ifCond .eq 12, 3) := by decide +kernel
theorem dX5_mark_8 : decode cX5_mark 8 = .ok (.iload_n 2, 1) := by decide +kernel
theorem dX5_mark_9 : decode cX5_mark 9 = .ok (.iconst 0, 1) := by decide +kernel
theorem dX5_mark_10 : decode cX5_mark 10 = .ok (.iconst 1, 1) := by decide +kernel
theorem dX5_mark_11 : decode cX5_mark 11 = .ok (.invokestatic 101, 3) := by decide +kernel
theorem dX5_mark_14 : decode cX5_mark 14 = .ok (.ifCond .ne 6, 3) := by decide +kernel
theorem dX5_mark_17 : decode cX5_mark 17 = .ok (.bipush (-2), 2) := by decide +kernel
theorem dX5_mark_19 : decode cX5_mark 19 = .ok (.ireturn, 1) := by decide +kernel
theorem dX5_mark_20 : decode cX5_mark 20 = .ok (.iconst 2, 1) := by decide +kernel
theorem dX5_mark_21 : decode cX5_mark 21 = .ok (.iload_n 1, 1) := by decide +kernel
theorem dX5_mark_22 : decode cX5_mark 22 = .ok (.imul, 1) := by decide +kernel
theorem dX5_mark_23 : decode cX5_mark 23 = .ok (.iload_n 2, 1) := by decide +kernel
theorem dX5_mark_24 : decode cX5_mark 24 = .ok (.iadd, 1) := by decide +kernel
theorem dX5_mark_25 : decode cX5_mark 25 = .ok (.istore_n 3, 1) := by decide +kernel
theorem dX5_mark_26 : decode cX5_mark 26 = .ok (.aload_n 0, 1) := by decide +kernel
theorem dX5_mark_27 : decode cX5_mark 27 = .ok (.getfield 74, 3) := by decide +kernel
theorem dX5_mark_30 : decode cX5_mark 30 = .ok (.iload_n 3, 1) := by decide +kernel
theorem dX5_mark_31 : decode cX5_mark 31 = .ok (.iconst 1, 1) := by decide +kernel
theorem dX5_mark_32 : decode cX5_mark 32 = .ok (.bastore, 1) := by decide +kernel
theorem dX5_mark_33 : decode cX5_mark 33 = .ok (.aload_n 0, 1) := by decide +kernel
theorem dX5_mark_34 : decode cX5_mark 34 = .ok (.getfield 77, 3) := by decide +kernel
theorem dX5_mark_37 : decode cX5_mark 37 = .ok (.iload_n 3, 1) := by decide +kernel
theorem dX5_mark_38 : decode cX5_mark 38 = .ok (.aload_n 0, 1) := by decide +kernel
theorem dX5_mark_39 : decode cX5_mark 39 = .ok (.getfield 50, 3) := by decide +kernel
theorem dX5_mark_42 : decode cX5_mark 42 = .ok (.iload_n 1, 1) := by decide +kernel
theorem dX5_mark_43 : decode cX5_mark 43 = .ok (.iaload, 1) := by decide +kernel
theorem dX5_mark_44 : decode cX5_mark 44 = .ok (.iastore, 1) := by decide +kernel
theorem dX5_mark_45 : decode cX5_mark 45 = .ok (.aload_n 0, 1) := by decide +kernel
theorem dX5_mark_46 : decode cX5_mark 46 = .ok (.iload_n 1, 1) := by decide +kernel
theorem dX5_mark_47 : decode cX5_mark 47 = .ok (.bipush 7, 2) := by decide +kernel
theorem dX5_mark_49 : decode cX5_mark 49 = .ok (.iconst 2, 1) := by decide +kernel
theorem dX5_mark_50 : decode cX5_mark 50 = .ok (.iload_n 3, 1) := by decide +kernel
theorem dX5_mark_51 : decode cX5_mark 51 = .ok (.imul, 1) := by decide +kernel
theorem dX5_mark_52 : decode cX5_mark 52 = .ok (.iadd, 1) := by decide +kernel
theorem dX5_mark_53 : decode cX5_mark 53 = .ok (.invokevirtual 143, 3) := by decide +kernel
theorem dX5_mark_56 : decode cX5_mark 56 = .ok (.aload_n 0, 1) := by decide +kernel
theorem dX5_mark_57 : decode cX5_mark 57 = .ok (.iconst 3, 1) := by decide +kernel
theorem dX5_mark_58 : decode cX5_mark 58 = .ok (.iload_n 1, 1) := by decide +kernel
theorem dX5_mark_59 : decode cX5_mark 59 = .ok (.iadd, 1) := by decide +kernel
theorem dX5_mark_60 : decode cX5_mark 60 = .ok (.bipush 8, 2) := by decide +kernel
theorem dX5_mark_62 : decode cX5_mark 62 = .ok (.iconst 2, 1) := by decide +kernel
theorem dX5_mark_63 : decode cX5_mark 63 = .ok (.iload_n 3, 1) := by decide +kernel
theorem dX5_mark_64 : decode cX5_mark 64 = .ok (.imul, 1) := by decide +kernel
theorem dX5_mark_65 : decode cX5_mark 65 = .ok (.iadd, 1) := by decide +kernel
theorem dX5_mark_66 : decode cX5_mark 66 = .ok (.invokevirtual 143, 3) := by decide +kernel
theorem dX5_mark_69 : decode cX5_mark 69 = .ok (.iconst 0, 1) := by decide +kernel
theorem dX5_mark_70 : decode cX5_mark 70 = .ok (.istore 4, 2) := by decide +kernel
theorem dX5_mark_72 : decode cX5_mark 72 = .ok (.iload 4, 2) := by decide +kernel
theorem dX5_mark_74 : decode cX5_mark 74 = .ok (.bipush 8, 2) := by decide +kernel
theorem dX5_mark_76 : decode cX5_mark 76 = .ok (.if_icmp .ge 57, 3) := by decide +kernel
theorem dX5_mark_79 : decode cX5_mark 79 = .ok (.aload_n 0, 1) := by decide +kernel
theorem dX5_mark_80 : decode cX5_mark 80 = .ok (.getfield 80, 3) := by decide +kernel
theorem dX5_mark_83 : decode cX5_mark 83 = .ok (.bipush 8, 2) := by decide +kernel
theorem dX5_mark_85 : decode cX5_mark 85 = .ok (.iload_n 3, 1) := by decide +kernel
theorem dX5_mark_86 : decode cX5_mark 86 = .ok (.imul, 1) := by decide +kernel
theorem dX5_mark_87 : decode cX5_mark 87 = .ok (.iload 4, 2) := by decide +kernel
theorem dX5_mark_89 : decode cX5_mark 89 = .ok (.iadd, 1) := by decide +kernel
theorem dX5_mark_90 : decode cX5_mark 90 = .ok (.aload_n 0, 1) := by decide +kernel
theorem dX5_mark_91 : decode cX5_mark 91 = .ok (.getfield 62, 3) := by decide +kernel
theorem dX5_mark_94 : decode cX5_mark 94 = .ok (.bipush 8, 2) := by decide +kernel
theorem dX5_mark_96 : decode cX5_mark 96 = .ok (.iload_n 1, 1) := by decide +kernel
theorem dX5_mark_97 : decode cX5_mark 97 = .ok (.imul, 1) := by decide +kernel
theorem dX5_mark_98 : decode cX5_mark 98 = .ok (.iload 4, 2) := by decide +kernel
theorem dX5_mark_100 : decode cX5_mark 100 = .ok (.iadd, 1) := by decide +kernel
theorem dX5_mark_101 : decode cX5_mark 101 = .ok (.iaload, 1) := by decide +kernel
theorem dX5_mark_102 : decode cX5_mark 102 = .ok (.iastore, 1) := by decide +kernel
theorem dX5_mark_103 : decode cX5_mark 103 = .ok (.aload_n 0, 1) := by decide +kernel
theorem dX5_mark_104 : decode cX5_mark 104 = .ok (.getfield 83, 3) := by decide +kernel
theorem dX5_mark_107 : decode cX5_mark 107 = .ok (.bipush 8, 2) := by decide +kernel
theorem dX5_mark_109 : decode cX5_mark 109 = .ok (.iload_n 3, 1) := by decide +kernel
theorem dX5_mark_110 : decode cX5_mark 110 = .ok (.imul, 1) := by decide +kernel
theorem dX5_mark_111 : decode cX5_mark 111 = .ok (.iload 4, 2) := by decide +kernel
theorem dX5_mark_113 : decode cX5_mark 113 = .ok (.iadd, 1) := by decide +kernel
theorem dX5_mark_114 : decode cX5_mark 114 = .ok (.aload_n 0, 1) := by decide +kernel
theorem dX5_mark_115 : decode cX5_mark 115 = .ok (.getfield 65, 3) := by decide +kernel
theorem dX5_mark_118 : decode cX5_mark 118 = .ok (.bipush 8, 2) := by decide +kernel
theorem dX5_mark_120 : decode cX5_mark 120 = .ok (.iload_n 1, 1) := by decide +kernel
theorem dX5_mark_121 : decode cX5_mark 121 = .ok (.imul, 1) := by decide +kernel
theorem dX5_mark_122 : decode cX5_mark 122 = .ok (.iload 4, 2) := by decide +kernel
theorem dX5_mark_124 : decode cX5_mark 124 = .ok (.iadd, 1) := by decide +kernel
theorem dX5_mark_125 : decode cX5_mark 125 = .ok (.iaload, 1) := by decide +kernel
theorem dX5_mark_126 : decode cX5_mark 126 = .ok (.iastore, 1) := by decide +kernel
theorem dX5_mark_127 : decode cX5_mark 127 = .ok (.iinc 4 1, 3) := by decide +kernel
theorem dX5_mark_130 : decode cX5_mark 130 = .ok (.goto (-58), 3) := by decide +kernel
theorem dX5_mark_133 : decode cX5_mark 133 = .ok (.aload_n 0, 1) := by decide +kernel
theorem dX5_mark_134 : decode cX5_mark 134 = .ok (.getfield 50, 3) := by decide +kernel
theorem dX5_mark_137 : decode cX5_mark 137 = .ok (.iload_n 1, 1) := by decide +kernel
theorem dX5_mark_138 : decode cX5_mark 138 = .ok (.iaload, 1) := by decide +kernel
theorem dX5_mark_139 : decode cX5_mark 139 = .ok (.ireturn, 1) := by decide +kernel
theorem dX5_back_0 : decode cX5_back 0 = .ok (.aload_n 0, 1) := by decide +kernel
theorem dX5_back_1 : decode cX5_back 1 = .ok (.iload_n 1, 1) := by decide +kernel
theorem dX5_back_2 : decode cX5_back 2 = .ok (.invokevirtual 149, 3) := by decide +kernel
theorem dX5_back_5 : decode cX5_back 5 = .ok (.ifCond .eq 12, 3) := by decide +kernel
theorem dX5_back_8 : decode cX5_back 8 = .ok (.iload_n 2, 1) := by decide +kernel
theorem dX5_back_9 : decode cX5_back 9 = .ok (.iconst 0, 1) := by decide +kernel
theorem dX5_back_10 : decode cX5_back 10 = .ok (.iconst 1, 1) := by decide +kernel
theorem dX5_back_11 : decode cX5_back 11 = .ok (.invokestatic 101, 3) := by decide +kernel
theorem dX5_back_14 : decode cX5_back 14 = .ok (.ifCond .ne 6, 3) := by decide +kernel
theorem dX5_back_17 : decode cX5_back 17 = .ok (.bipush (-2), 2) := by decide +kernel
theorem dX5_back_19 : decode cX5_back 19 = .ok (.ireturn, 1) := by decide +kernel
theorem dX5_back_20 : decode cX5_back 20 = .ok (.iconst 2, 1) := by decide +kernel
theorem dX5_back_21 : decode cX5_back 21 = .ok (.iload_n 1, 1) := by decide +kernel
theorem dX5_back_22 : decode cX5_back 22 = .ok (.imul, 1) := by decide +kernel
theorem dX5_back_23 : decode cX5_back 23 = .ok (.iload_n 2, 1) := by decide +kernel
theorem dX5_back_24 : decode cX5_back 24 = .ok (.iadd, 1) := by decide +kernel
theorem dX5_back_25 : decode cX5_back 25 = .ok (.istore_n 3, 1) := by decide +kernel
theorem dX5_back_26 : decode cX5_back 26 = .ok (.aload_n 0, 1) := by decide +kernel
theorem dX5_back_27 : decode cX5_back 27 = .ok (.getfield 74, 3) := by decide +kernel
theorem dX5_back_30 : decode cX5_back 30 = .ok (.iload_n 3, 1) := by decide +kernel
theorem dX5_back_31 : decode cX5_back 31 = .ok (.baload, 1) := by decide +kernel
theorem dX5_back_32 : decode cX5_back 32 = .ok (.ifCond .ne 6, 3) := by decide +kernel
theorem dX5_back_35 : decode cX5_back 35 = .ok (.bipush (-3), 2) := by decide +kernel
theorem dX5_back_37 : decode cX5_back 37 = .ok (.ireturn, 1) := by decide +kernel
theorem dX5_back_38 : decode cX5_back 38 = .ok (.aload_n 0, 1) := by decide +kernel
theorem dX5_back_39 : decode cX5_back 39 = .ok (.getfield 50, 3) := by decide +kernel
theorem dX5_back_42 : decode cX5_back 42 = .ok (.iload_n 1, 1) := by decide +kernel
theorem dX5_back_43 : decode cX5_back 43 = .ok (.iaload, 1) := by decide +kernel
theorem dX5_back_44 : decode cX5_back 44 = .ok (.istore 4, 2) := by decide +kernel
theorem dX5_back_46 : decode cX5_back 46 = .ok (.aload_n 0, 1) := by decide +kernel
theorem dX5_back_47 : decode cX5_back 47 = .ok (.getfield 50, 3) := by decide +kernel
theorem dX5_back_50 : decode cX5_back 50 = .ok (.iload_n 1, 1) := by decide +kernel
theorem dX5_back_51 : decode cX5_back 51 = .ok (.aload_n 0, 1) := by decide +kernel
theorem dX5_back_52 : decode cX5_back 52 = .ok (.getfield 77, 3) := by decide +kernel
theorem dX5_back_55 : decode cX5_back 55 = .ok (.iload_n 3, 1) := by decide +kernel
theorem dX5_back_56 : decode cX5_back 56 = .ok (.iaload, 1) := by decide +kernel
theorem dX5_back_57 : decode cX5_back 57 = .ok (.iastore, 1) := by decide +kernel
theorem dX5_back_58 : decode cX5_back 58 = .ok (.aload_n 0, 1) := by decide +kernel
theorem dX5_back_59 : decode cX5_back 59 = .ok (.iload_n 1, 1) := by decide +kernel
theorem dX5_back_60 : decode cX5_back 60 = .ok (.aload_n 0, 1) := by decide +kernel
theorem dX5_back_61 : decode cX5_back 61 = .ok (.getfield 50, 3) := by decide +kernel
theorem dX5_back_64 : decode cX5_back 64 = .ok (.iload_n 1, 1) := by decide +kernel
theorem dX5_back_65 : decode cX5_back 65 = .ok (.iaload, 1) := by decide +kernel
theorem dX5_back_66 : decode cX5_back 66 = .ok (.invokevirtual 167, 3) := by decide +kernel
theorem dX5_back_69 : decode cX5_back 69 = .ok (.aload_n 0, 1) := by decide +kernel
theorem dX5_back_70 : decode cX5_back 70 = .ok (.bipush 7, 2) := by decide +kernel
theorem dX5_back_72 : decode cX5_back 72 = .ok (.iconst 2, 1) := by decide +kernel
theorem dX5_back_73 : decode cX5_back 73 = .ok (.iload_n 3, 1) := by decide +kernel
theorem dX5_back_74 : decode cX5_back 74 = .ok (.imul, 1) := by decide +kernel
theorem dX5_back_75 : decode cX5_back 75 = .ok (.iadd, 1) := by decide +kernel
theorem dX5_back_76 : decode cX5_back 76 = .ok (.iload_n 1, 1) := by decide +kernel
theorem dX5_back_77 : decode cX5_back 77 = .ok (.invokevirtual 143, 3) := by decide +kernel
theorem dX5_back_80 : decode cX5_back 80 = .ok (.aload_n 0, 1) := by decide +kernel
theorem dX5_back_81 : decode cX5_back 81 = .ok (.bipush 8, 2) := by decide +kernel
theorem dX5_back_83 : decode cX5_back 83 = .ok (.iconst 2, 1) := by decide +kernel
theorem dX5_back_84 : decode cX5_back 84 = .ok (.iload_n 3, 1) := by decide +kernel
theorem dX5_back_85 : decode cX5_back 85 = .ok (.imul, 1) := by decide +kernel
theorem dX5_back_86 : decode cX5_back 86 = .ok (.iadd, 1) := by decide +kernel
theorem dX5_back_87 : decode cX5_back 87 = .ok (.iconst 3, 1) := by decide +kernel
theorem dX5_back_88 : decode cX5_back 88 = .ok (.iload_n 1, 1) := by decide +kernel
theorem dX5_back_89 : decode cX5_back 89 = .ok (.iadd, 1) := by decide +kernel
theorem dX5_back_90 : decode cX5_back 90 = .ok (.invokevirtual 143, 3) := by decide +kernel
theorem dX5_back_93 : decode cX5_back 93 = .ok (.iconst 0, 1) := by decide +kernel
theorem dX5_back_94 : decode cX5_back 94 = .ok (.istore 5, 2) := by decide +kernel
theorem dX5_back_96 : decode cX5_back 96 = .ok (.iload 5, 2) := by decide +kernel
theorem dX5_back_98 : decode cX5_back 98 = .ok (.bipush 8, 2) := by decide +kernel
theorem dX5_back_100 : decode cX5_back 100 = .ok (.if_icmp .ge 57, 3) := by decide +kernel
theorem dX5_back_103 : decode cX5_back 103 = .ok (.aload_n 0, 1) := by decide +kernel
theorem dX5_back_104 : decode cX5_back 104 = .ok (.getfield 62, 3) := by decide +kernel
theorem dX5_back_107 : decode cX5_back 107 = .ok (.bipush 8, 2) := by decide +kernel
theorem dX5_back_109 : decode cX5_back 109 = .ok (.iload_n 1, 1) := by decide +kernel
end
section
theorem dX5_back_110 : decode cX5_back 110 = .ok (.imul, 1) := by decide +kernel
theorem dX5_back_111 : decode cX5_back 111 = .ok (.iload 5, 2) := by decide +kernel
theorem dX5_back_113 : decode cX5_back 113 = .ok (.iadd, 1) := by decide +kernel
theorem dX5_back_114 : decode cX5_back 114 = .ok (.aload_n 0, 1) := by decide +kernel
theorem dX5_back_115 : decode cX5_back 115 = .ok (.getfield 80, 3) := by decide +kernel
theorem dX5_back_118 : decode cX5_back 118 = .ok (.bipush 8, 2) := by decide +kernel
theorem dX5_back_120 : decode cX5_back 120 = .ok (.iload_n 3, 1) := by decide +kernel
theorem dX5_back_121 : decode cX5_back 121 = .ok (.imul, 1) := by decide +kernel
theorem dX5_back_122 : decode cX5_back 122 = .ok (.iload 5, 2) := by decide +kernel
theorem dX5_back_124 : decode cX5_back 124 = .ok (.iadd, 1) := by decide +kernel
theorem dX5_back_125 : decode cX5_back 125 = .ok (.iaload, 1) := by decide +kernel
theorem dX5_back_126 : decode cX5_back 126 = .ok (.iastore, 1) := by decide +kernel
theorem dX5_back_127 : decode cX5_back 127 = .ok (.aload_n 0, 1) := by decide +kernel
theorem dX5_back_128 : decode cX5_back 128 = .ok (.getfield 65, 3) := by decide +kernel
theorem dX5_back_131 : decode cX5_back 131 = .ok (.bipush 8, 2) := by decide +kernel
theorem dX5_back_133 : decode cX5_back 133 = .ok (.iload_n 1, 1) := by decide +kernel
theorem dX5_back_134 : decode cX5_back 134 = .ok (.imul, 1) := by decide +kernel
theorem dX5_back_135 : decode cX5_back 135 = .ok (.iload 5, 2) := by decide +kernel
theorem dX5_back_137 : decode cX5_back 137 = .ok (.iadd, 1) := by decide +kernel
theorem dX5_back_138 : decode cX5_back 138 = .ok (.aload_n 0, 1) := by decide +kernel
theorem dX5_back_139 : decode cX5_back 139 = .ok (.getfield 83, 3) := by decide +kernel
theorem dX5_back_142 : decode cX5_back 142 = .ok (.bipush 8, 2) := by decide +kernel
theorem dX5_back_144 : decode cX5_back 144 = .ok (.iload_n 3, 1) := by decide +kernel
theorem dX5_back_145 : decode cX5_back 145 = .ok (.imul, 1) := by decide +kernel
theorem dX5_back_146 : decode cX5_back 146 = .ok (.iload 5, 2) := by decide +kernel
theorem dX5_back_148 : decode cX5_back 148 = .ok (.iadd, 1) := by decide +kernel
theorem dX5_back_149 : decode cX5_back 149 = .ok (.iaload, 1) := by decide +kernel
theorem dX5_back_150 : decode cX5_back 150 = .ok (.iastore, 1) := by decide +kernel
theorem dX5_back_151 : decode cX5_back 151 = .ok (.iinc 5 1, 3) := by decide +kernel
theorem dX5_back_154 : decode cX5_back 154 = .ok (.goto (-58), 3) := by decide +kernel
theorem dX5_back_157 : decode cX5_back 157 = .ok (.aload_n 0, 1) := by decide +kernel
theorem dX5_back_158 : decode cX5_back 158 = .ok (.iload_n 1, 1) := by decide +kernel
theorem dX5_back_159 : decode cX5_back 159 = .ok (.iload 4, 2) := by decide +kernel
theorem dX5_back_161 : decode cX5_back 161 = .ok (.invokevirtual 152, 3) := by decide +kernel
theorem dX5_back_164 : decode cX5_back 164 = .ok (.istore 5, 2) := by decide +kernel
theorem dX5_back_166 : decode cX5_back 166 = .ok (.aload_n 0, 1) := by decide +kernel
theorem dX5_back_167 : decode cX5_back 167 = .ok (.getfield 77, 3) := by decide +kernel
theorem dX5_back_170 : decode cX5_back 170 = .ok (.iload_n 3, 1) := by decide +kernel
theorem dX5_back_171 : decode cX5_back 171 = .ok (.iaload, 1) := by decide +kernel
theorem dX5_back_172 : decode cX5_back 172 = .ok (.ireturn, 1) := by decide +kernel
theorem dX5_room_0 : decode cX5_room 0 = .ok (.aload_n 0, 1) := by decide +kernel
theorem dX5_room_1 : decode cX5_room 1 = .ok (.iload_n 1, 1) := by decide +kernel
theorem dX5_room_2 : decode cX5_room 2 = .ok (.invokevirtual 149, 3) := by decide +kernel
theorem dX5_room_5 : decode cX5_room 5 = .ok (.ifCond .eq 13, 3) := by decide +kernel
theorem dX5_room_8 : decode cX5_room 8 = .ok (.iload_n 3, 1) := by decide +kernel
theorem dX5_room_9 : decode cX5_room 9 = .ok (.iconst 0, 1) := by decide +kernel
theorem dX5_room_10 : decode cX5_room 10 = .ok (.bipush 15, 2) := by decide +kernel
theorem dX5_room_12 : decode cX5_room 12 = .ok (.invokestatic 101, 3) := by decide +kernel
theorem dX5_room_15 : decode cX5_room 15 = .ok (.ifCond .ne 6, 3) := by decide +kernel
theorem dX5_room_18 : decode cX5_room 18 = .ok (.bipush (-2), 2) := by decide +kernel
theorem dX5_room_20 : decode cX5_room 20 = .ok (.ireturn, 1) := by decide +kernel
theorem dX5_room_21 : decode cX5_room 21 = .ok (.aload_n 0, 1) := by decide +kernel
theorem dX5_room_22 : decode cX5_room 22 = .ok (.getfield 25, 3) := by decide +kernel
theorem dX5_room_25 : decode cX5_room 25 = .ok (.bipush 16, 2) := by decide +kernel
theorem dX5_room_27 : decode cX5_room 27 = .ok (.iload_n 1, 1) := by decide +kernel
theorem dX5_room_28 : decode cX5_room 28 = .ok (.imul, 1) := by decide +kernel
theorem dX5_room_29 : decode cX5_room 29 = .ok (.iload_n 3, 1) := by decide +kernel
theorem dX5_room_30 : decode cX5_room 30 = .ok (.iadd, 1) := by decide +kernel
theorem dX5_room_31 : decode cX5_room 31 = .ok (.baload, 1) := by decide +kernel
theorem dX5_room_32 : decode cX5_room 32 = .ok (.ifCond .eq 27, 3) := by decide +kernel
theorem dX5_room_35 : decode cX5_room 35 = .ok (.aload_n 0, 1) := by decide +kernel
theorem dX5_room_36 : decode cX5_room 36 = .ok (.getfield 47, 3) := by decide +kernel
theorem dX5_room_39 : decode cX5_room 39 = .ok (.bipush 16, 2) := by decide +kernel
theorem dX5_room_41 : decode cX5_room 41 = .ok (.iload_n 2, 1) := by decide +kernel
theorem dX5_room_42 : decode cX5_room 42 = .ok (.ifCond .eq 9, 3) := by decide +kernel
theorem dX5_room_45 : decode cX5_room 45 = .ok (.iconst 3, 1) := by decide +kernel
theorem dX5_room_46 : decode cX5_room 46 = .ok (.iload_n 1, 1) := by decide +kernel
theorem dX5_room_47 : decode cX5_room 47 = .ok (.iadd, 1) := by decide +kernel
theorem dX5_room_48 : decode cX5_room 48 = .ok (.goto 4, 3) := by decide +kernel
theorem dX5_room_51 : decode cX5_room 51 = .ok (.iload_n 1, 1) := by decide +kernel
theorem dX5_room_52 : decode cX5_room 52 = .ok (.imul, 1) := by decide +kernel
theorem dX5_room_53 : decode cX5_room 53 = .ok (.iload_n 3, 1) := by decide +kernel
theorem dX5_room_54 : decode cX5_room 54 = .ok (.iadd, 1) := by decide +kernel
theorem dX5_room_55 : decode cX5_room 55 = .ok (.iaload, 1) := by decide +kernel
theorem dX5_room_56 : decode cX5_room 56 = .ok (.goto 5, 3) := by decide +kernel
theorem dX5_room_59 : decode cX5_room 59 = .ok (.bipush (-3), 2) := by decide +kernel
theorem dX5_room_61 : decode cX5_room 61 = .ok (.ireturn, 1) := by decide +kernel
theorem dX5_score_0 : decode cX5_score 0 = .ok (.aload_n 0, 1) := by decide +kernel
theorem dX5_score_1 : decode cX5_score 1 = .ok (.iload_n 1, 1) := by decide +kernel
theorem dX5_score_2 : decode cX5_score 2 = .ok (.invokevirtual 149, 3) := by decide +kernel
theorem dX5_score_5 : decode cX5_score 5 = .ok (.ifCond .ne 6, 3) := by decide +kernel
theorem dX5_score_8 : decode cX5_score 8 = .ok (.bipush (-2), 2) := by decide +kernel
theorem dX5_score_10 : decode cX5_score 10 = .ok (.ireturn, 1) := by decide +kernel
theorem dX5_score_11 : decode cX5_score 11 = .ok (.aload_n 0, 1) := by decide +kernel
theorem dX5_score_12 : decode cX5_score 12 = .ok (.iload_n 2, 1) := by decide +kernel
theorem dX5_score_13 : decode cX5_score 13 = .ok (.ifCond .eq 9, 3) := by decide +kernel
theorem dX5_score_16 : decode cX5_score 16 = .ok (.iconst 3, 1) := by decide +kernel
theorem dX5_score_17 : decode cX5_score 17 = .ok (.iload_n 1, 1) := by decide +kernel
theorem dX5_score_18 : decode cX5_score 18 = .ok (.iadd, 1) := by decide +kernel
theorem dX5_score_19 : decode cX5_score 19 = .ok (.goto 4, 3) := by decide +kernel
theorem dX5_score_22 : decode cX5_score 22 = .ok (.iload_n 1, 1) := by decide +kernel
theorem dX5_score_23 : decode cX5_score 23 = .ok (.iload_n 1, 1) := by decide +kernel
theorem dX5_score_24 : decode cX5_score 24 = .ok (.iload_n 1, 1) := by decide +kernel
theorem dX5_score_25 : decode cX5_score 25 = .ok (.invokevirtual 135, 3) := by decide +kernel
theorem dX5_score_28 : decode cX5_score 28 = .ok (.iload_n 3, 1) := by decide +kernel
theorem dX5_score_29 : decode cX5_score 29 = .ok (.ifCond .eq 10, 3) := by decide +kernel
theorem dX5_score_32 : decode cX5_score 32 = .ok (.aload_n 0, 1) := by decide +kernel
theorem dX5_score_33 : decode cX5_score 33 = .ok (.getfield 119, 3) := by decide +kernel
theorem dX5_score_36 : decode cX5_score 36 = .ok (.goto 7, 3) := by decide +kernel
theorem dX5_score_39 : decode cX5_score 39 = .ok (.aload_n 0, 1) := by decide +kernel
theorem dX5_score_40 : decode cX5_score 40 = .ok (.getfield 122, 3) := by decide +kernel
theorem dX5_score_43 : decode cX5_score 43 = .ok (.ireturn, 1) := by decide +kernel
theorem dX5_scoreBy_0 : decode cX5_scoreBy 0 = .ok (.aload_n 0, 1) := by decide +kernel
theorem dX5_scoreBy_1 : decode cX5_scoreBy 1 = .ok (.iload_n 1, 1) := by decide +kernel
theorem dX5_scoreBy_2 : decode cX5_scoreBy 2 = .ok (.invokevirtual 149, 3) := by decide +kernel
theorem dX5_scoreBy_5 : decode cX5_scoreBy 5 = .ok (.ifCond .eq 16, 3) := by decide +kernel
theorem dX5_scoreBy_8 : decode cX5_scoreBy 8 = .ok (.iload 4, 2) := by decide +kernel
theorem dX5_scoreBy_10 : decode cX5_scoreBy 10 = .ok (.iconst 0, 1) := by decide +kernel
theorem dX5_scoreBy_11 : decode cX5_scoreBy 11 = .ok (.aload_n 0, 1) := by decide +kernel
theorem dX5_scoreBy_12 : decode cX5_scoreBy 12 = .ok (.getfield 97, 3) := by decide +kernel
theorem dX5_scoreBy_15 : decode cX5_scoreBy 15 = .ok (.invokestatic 101, 3) := by decide +kernel
theorem dX5_scoreBy_18 : decode cX5_scoreBy 18 = .ok (.ifCond .ne 6, 3) := by decide +kernel
theorem dX5_scoreBy_21 : decode cX5_scoreBy 21 = .ok (.bipush (-2), 2) := by decide +kernel
theorem dX5_scoreBy_23 : decode cX5_scoreBy 23 = .ok (.ireturn, 1) := by decide +kernel
theorem dX5_scoreBy_24 : decode cX5_scoreBy 24 = .ok (.aload_n 0, 1) := by decide +kernel
theorem dX5_scoreBy_25 : decode cX5_scoreBy 25 = .ok (.iconst 3, 1) := by decide +kernel
theorem dX5_scoreBy_26 : decode cX5_scoreBy 26 = .ok (.iload 4, 2) := by decide +kernel
theorem dX5_scoreBy_28 : decode cX5_scoreBy 28 = .ok (.invokevirtual 167, 3) := by decide +kernel
theorem dX5_scoreBy_31 : decode cX5_scoreBy 31 = .ok (.aload_n 0, 1) := by decide +kernel
theorem dX5_scoreBy_32 : decode cX5_scoreBy 32 = .ok (.iload_n 2, 1) := by decide +kernel
theorem dX5_scoreBy_33 : decode cX5_scoreBy 33 = .ok (.ifCond .eq 9, 3) := by decide +kernel
theorem dX5_scoreBy_36 : decode cX5_scoreBy 36 = .ok (.iconst 3, 1) := by decide +kernel
theorem dX5_scoreBy_37 : decode cX5_scoreBy 37 = .ok (.iload_n 1, 1) := by decide +kernel
theorem dX5_scoreBy_38 : decode cX5_scoreBy 38 = .ok (.iadd, 1) := by decide +kernel
theorem dX5_scoreBy_39 : decode cX5_scoreBy 39 = .ok (.goto 4, 3) := by decide +kernel
theorem dX5_scoreBy_42 : decode cX5_scoreBy 42 = .ok (.iload_n 1, 1) := by decide +kernel
theorem dX5_scoreBy_43 : decode cX5_scoreBy 43 = .ok (.iconst 3, 1) := by decide +kernel
theorem dX5_scoreBy_44 : decode cX5_scoreBy 44 = .ok (.iload_n 1, 1) := by decide +kernel
theorem dX5_scoreBy_45 : decode cX5_scoreBy 45 = .ok (.invokevirtual 135, 3) := by decide +kernel
theorem dX5_scoreBy_48 : decode cX5_scoreBy 48 = .ok (.iload_n 3, 1) := by decide +kernel
theorem dX5_scoreBy_49 : decode cX5_scoreBy 49 = .ok (.ifCond .eq 10, 3) := by decide +kernel
theorem dX5_scoreBy_52 : decode cX5_scoreBy 52 = .ok (.aload_n 0, 1) := by decide +kernel
theorem dX5_scoreBy_53 : decode cX5_scoreBy 53 = .ok (.getfield 119, 3) := by decide +kernel
theorem dX5_scoreBy_56 : decode cX5_scoreBy 56 = .ok (.goto 7, 3) := by decide +kernel
theorem dX5_scoreBy_59 : decode cX5_scoreBy 59 = .ok (.aload_n 0, 1) := by decide +kernel
theorem dX5_scoreBy_60 : decode cX5_scoreBy 60 = .ok (.getfield 122, 3) := by decide +kernel
theorem dX5_scoreBy_63 : decode cX5_scoreBy 63 = .ok (.ireturn, 1) := by decide +kernel
theorem dX5_same_0 : decode cX5_same 0 = .ok (.aload_n 0, 1) := by decide +kernel
theorem dX5_same_1 : decode cX5_same 1 = .ok (.iload_n 1, 1) := by decide +kernel
theorem dX5_same_2 : decode cX5_same 2 = .ok (.invokevirtual 149, 3) := by decide +kernel
theorem dX5_same_5 : decode cX5_same 5 = .ok (.ifCond .eq 11, 3) := by decide +kernel
theorem dX5_same_8 : decode cX5_same 8 = .ok (.aload_n 0, 1) := by decide +kernel
theorem dX5_same_9 : decode cX5_same 9 = .ok (.iload_n 2, 1) := by decide +kernel
theorem dX5_same_10 : decode cX5_same 10 = .ok (.invokevirtual 149, 3) := by decide +kernel
theorem dX5_same_13 : decode cX5_same 13 = .ok (.ifCond .ne 6, 3) := by decide +kernel
theorem dX5_same_16 : decode cX5_same 16 = .ok (.bipush (-2), 2) := by decide +kernel
theorem dX5_same_18 : decode cX5_same 18 = .ok (.ireturn, 1) := by decide +kernel
theorem dX5_same_19 : decode cX5_same 19 = .ok (.aload_n 0, 1) := by decide +kernel
theorem dX5_same_20 : decode cX5_same 20 = .ok (.getfield 50, 3) := by decide +kernel
theorem dX5_same_23 : decode cX5_same 23 = .ok (.iload_n 1, 1) := by decide +kernel
theorem dX5_same_24 : decode cX5_same 24 = .ok (.iaload, 1) := by decide +kernel
theorem dX5_same_25 : decode cX5_same 25 = .ok (.aload_n 0, 1) := by decide +kernel
theorem dX5_same_26 : decode cX5_same 26 = .ok (.getfield 50, 3) := by decide +kernel
theorem dX5_same_29 : decode cX5_same 29 = .ok (.iload_n 2, 1) := by decide +kernel
theorem dX5_same_30 : decode cX5_same 30 = .ok (.iaload, 1) := by decide +kernel
theorem dX5_same_31 : decode cX5_same 31 = .ok (.if_icmp .ne 7, 3) := by decide +kernel
theorem dX5_same_34 : decode cX5_same 34 = .ok (.iconst 1, 1) := by decide +kernel
theorem dX5_same_35 : decode cX5_same 35 = .ok (.goto 4, 3) := by decide +kernel
theorem dX5_same_38 : decode cX5_same 38 = .ok (.iconst 0, 1) := by decide +kernel
theorem dX5_same_39 : decode cX5_same 39 = .ok (.istore_n 3, 1) := by decide +kernel
theorem dX5_same_40 : decode cX5_same 40 = .ok (.iconst 0, 1) := by decide +kernel
theorem dX5_same_41 : decode cX5_same 41 = .ok (.istore 4, 2) := by decide +kernel
theorem dX5_same_43 : decode cX5_same 43 = .ok (.iload 4, 2) := by decide +kernel
theorem dX5_same_45 : decode cX5_same 45 = .ok (.bipush 16, 2) := by decide +kernel
theorem dX5_same_47 : decode cX5_same 47 = .ok (.if_icmp .ge 92, 3) := by decide +kernel
theorem dX5_same_50 : decode cX5_same 50 = .ok (.iload_n 3, 1) := by decide +kernel
theorem dX5_same_51 : decode cX5_same 51 = .ok (.ifCond .eq 88, 3) := by decide +kernel
theorem dX5_same_54 : decode cX5_same 54 = .ok (.aload_n 0, 1) := by decide +kernel
theorem dX5_same_55 : decode cX5_same 55 = .ok (.getfield 25, 3) := by decide +kernel
theorem dX5_same_58 : decode cX5_same 58 = .ok (.bipush 16, 2) := by decide +kernel
theorem dX5_same_60 : decode cX5_same 60 = .ok (.iload_n 1, 1) := by decide +kernel
theorem dX5_same_61 : decode cX5_same 61 = .ok (.imul, 1) := by decide +kernel
theorem dX5_same_62 : decode cX5_same 62 = .ok (.iload 4, 2) := by decide +kernel
theorem dX5_same_64 : decode cX5_same 64 = .ok (.iadd, 1) := by decide +kernel
theorem dX5_same_65 : decode cX5_same 65 = .ok (.baload, 1) := by decide +kernel
theorem dX5_same_66 : decode cX5_same 66 = .ok (.ifCond .eq 61, 3) := by decide +kernel
theorem dX5_same_69 : decode cX5_same 69 = .ok (.aload_n 0, 1) := by decide +kernel
theorem dX5_same_70 : decode cX5_same 70 = .ok (.getfield 47, 3) := by decide +kernel
theorem dX5_same_73 : decode cX5_same 73 = .ok (.bipush 16, 2) := by decide +kernel
theorem dX5_same_75 : decode cX5_same 75 = .ok (.iload_n 1, 1) := by decide +kernel
theorem dX5_same_76 : decode cX5_same 76 = .ok (.imul, 1) := by decide +kernel
theorem dX5_same_77 : decode cX5_same 77 = .ok (.iload 4, 2) := by decide +kernel
theorem dX5_same_79 : decode cX5_same 79 = .ok (.iadd, 1) := by decide +kernel
theorem dX5_same_80 : decode cX5_same 80 = .ok (.iaload, 1) := by decide +kernel
theorem dX5_same_81 : decode cX5_same 81 = .ok (.aload_n 0, 1) := by decide +kernel
theorem dX5_same_82 : decode cX5_same 82 = .ok (.getfield 47, 3) := by decide +kernel
theorem dX5_same_85 : decode cX5_same 85 = .ok (.bipush 16, 2) := by decide +kernel
theorem dX5_same_87 : decode cX5_same 87 = .ok (.iload_n 2, 1) := by decide +kernel
theorem dX5_same_88 : decode cX5_same 88 = .ok (.imul, 1) := by decide +kernel
theorem dX5_same_89 : decode cX5_same 89 = .ok (.iload 4, 2) := by decide +kernel
theorem dX5_same_91 : decode cX5_same 91 = .ok (.iadd, 1) := by decide +kernel
theorem dX5_same_92 : decode cX5_same 92 = .ok (.iaload, 1) := by decide +kernel
theorem dX5_same_93 : decode cX5_same 93 = .ok (.if_icmp .ne 38, 3) := by decide +kernel
theorem dX5_same_96 : decode cX5_same 96 = .ok (.aload_n 0, 1) := by decide +kernel
theorem dX5_same_97 : decode cX5_same 97 = .ok (.getfield 47, 3) := by decide +kernel
theorem dX5_same_100 : decode cX5_same 100 = .ok (.bipush 16, 2) := by decide +kernel
theorem dX5_same_102 : decode cX5_same 102 = .ok (.iconst 3, 1) := by decide +kernel
theorem dX5_same_103 : decode cX5_same 103 = .ok (.iload_n 1, 1) := by decide +kernel
theorem dX5_same_104 : decode cX5_same 104 = .ok (.iadd, 1) := by decide +kernel
theorem dX5_same_105 : decode cX5_same 105 = .ok (.imul, 1) := by decide +kernel
theorem dX5_same_106 : decode cX5_same 106 = .ok (.iload 4, 2) := by decide +kernel
theorem dX5_same_108 : decode cX5_same 108 = .ok (.iadd, 1) := by decide +kernel
theorem dX5_same_109 : decode cX5_same 109 = .ok (.iaload, 1) := by decide +kernel
theorem dX5_same_110 : decode cX5_same 110 = .ok (.aload_n 0, 1) := by decide +kernel
theorem dX5_same_111 : decode cX5_same 111 = .ok (.getfield 47, 3) := by decide +kernel
theorem dX5_same_114 : decode cX5_same 114 = .ok (.bipush 16, 2) := by decide +kernel
theorem dX5_same_116 : decode cX5_same 116 = .ok (.iconst 3, 1) := by decide +kernel
theorem dX5_same_117 : decode cX5_same 117 = .ok (.iload_n 2, 1) := by decide +kernel
theorem dX5_same_118 : decode cX5_same 118 = .ok (.iadd, 1) := by decide +kernel
theorem dX5_same_119 : decode cX5_same 119 = .ok (.imul, 1) := by decide +kernel
theorem dX5_same_120 : decode cX5_same 120 = .ok (.iload 4, 2) := by decide +kernel
theorem dX5_same_122 : decode cX5_same 122 = .ok (.iadd, 1) := by decide +kernel
theorem dX5_same_123 : decode cX5_same 123 = .ok (.iaload, 1) := by decide +kernel
theorem dX5_same_124 : decode cX5_same 124 = .ok (.if_icmp .ne 7, 3) := by decide +kernel
theorem dX5_same_127 : decode cX5_same 127 = .ok (.iconst 1, 1) := by decide +kernel
theorem dX5_same_128 : decode cX5_same 128 = .ok (.goto 4, 3) := by decide +kernel
theorem dX5_same_131 : decode cX5_same 131 = .ok (.iconst 0, 1) := by decide +kernel
theorem dX5_same_132 : decode cX5_same 132 = .ok (.istore_n 3, 1) := by decide +kernel
theorem dX5_same_133 : decode cX5_same 133 = .ok (.iinc 4 1, 3) := by decide +kernel
theorem dX5_same_136 : decode cX5_same 136 = .ok (.goto (-93), 3) := by decide +kernel
theorem dX5_same_139 : decode cX5_same 139 = .ok (.iload_n 3, 1) := by decide +kernel
theorem dX5_same_140 : decode cX5_same 140 = .ok (.ifCond .eq 7, 3) := by decide +kernel
theorem dX5_same_143 : decode cX5_same 143 = .ok (.iconst 1, 1) := by decide +kernel
theorem dX5_same_144 : decode cX5_same 144 = .ok (.goto 4, 3) := by decide +kernel
theorem dX5_same_147 : decode cX5_same 147 = .ok (.iconst 0, 1) := by decide +kernel
theorem dX5_same_148 : decode cX5_same 148 = .ok (.ireturn, 1) := by decide +kernel
theorem dX5_told_0 : decode cX5_told 0 = .ok (.aload_n 0, 1) := by decide +kernel
theorem dX5_told_1 : decode cX5_told 1 = .ok (.iload_n 1, 1) := by decide +kernel
theorem dX5_told_2 : decode cX5_told 2 = .ok (.invokevirtual 149, 3) := by decide +kernel
theorem dX5_told_5 : decode cX5_told 5 = .ok (.ifCond .eq 13, 3) := by decide +kernel
theorem dX5_told_8 : decode cX5_told 8 = .ok (.iload_n 2, 1) := by decide +kernel
theorem dX5_told_9 : decode cX5_told 9 = .ok (.iconst 0, 1) := by decide +kernel
theorem dX5_told_10 : decode cX5_told 10 = .ok (.bipush 6, 2) := by decide +kernel
theorem dX5_told_12 : decode cX5_told 12 = .ok (.invokestatic 101, 3) := by decide +kernel
theorem dX5_told_15 : decode cX5_told 15 = .ok (.ifCond .ne 6, 3) := by decide +kernel
theorem dX5_told_18 : decode cX5_told 18 = .ok (.ldc 170, 2) := by decide +kernel
theorem dX5_told_20 : decode cX5_told 20 = .ok (.ireturn, 1) := by decide +kernel
theorem dX5_told_21 : decode cX5_told 21 = .ok (.bipush 8, 2) := by decide +kernel
theorem dX5_told_23 : decode cX5_told 23 = .ok (.iload_n 1, 1) := by decide +kernel
theorem dX5_told_24 : decode cX5_told 24 = .ok (.imul, 1) := by decide +kernel
theorem dX5_told_25 : decode cX5_told 25 = .ok (.aload_n 0, 1) := by decide +kernel
theorem dX5_told_26 : decode cX5_told 26 = .ok (.getfield 53, 3) := by decide +kernel
theorem dX5_told_29 : decode cX5_told 29 = .ok (.iload_n 1, 1) := by decide +kernel
theorem dX5_told_30 : decode cX5_told 30 = .ok (.iaload, 1) := by decide +kernel
theorem dX5_told_31 : decode cX5_told 31 = .ok (.aload_n 0, 1) := by decide +kernel
theorem dX5_told_32 : decode cX5_told 32 = .ok (.getfield 59, 3) := by decide +kernel
theorem dX5_told_35 : decode cX5_told 35 = .ok (.iload_n 1, 1) := by decide +kernel
theorem dX5_told_36 : decode cX5_told 36 = .ok (.iaload, 1) := by decide +kernel
theorem dX5_told_37 : decode cX5_told 37 = .ok (.irem, 1) := by decide +kernel
theorem dX5_told_38 : decode cX5_told 38 = .ok (.iadd, 1) := by decide +kernel
theorem dX5_told_39 : decode cX5_told 39 = .ok (.istore_n 3, 1) := by decide +kernel
theorem dX5_told_40 : decode cX5_told 40 = .ok (.iload_n 2, 1) := by decide +kernel
theorem dX5_told_41 : decode cX5_told 41 = .ok (.tableswitch 81 0 5 #[39, 46, 53, 60, 67, 74], 39) := by decide +kernel
theorem dX5_told_80 : decode cX5_told 80 = .ok (.aload_n 0, 1) := by decide +kernel
theorem dX5_told_81 : decode cX5_told 81 = .ok (.getfield 53, 3) := by decide +kernel
theorem dX5_told_84 : decode cX5_told 84 = .ok (.iload_n 1, 1) := by decide +kernel
theorem dX5_told_85 : decode cX5_told 85 = .ok (.iaload, 1) := by decide +kernel
theorem dX5_told_86 : decode cX5_told 86 = .ok (.ireturn, 1) := by decide +kernel
theorem dX5_told_87 : decode cX5_told 87 = .ok (.aload_n 0, 1) := by decide +kernel
theorem dX5_told_88 : decode cX5_told 88 = .ok (.getfield 50, 3) := by decide +kernel
theorem dX5_told_91 : decode cX5_told 91 = .ok (.iload_n 1, 1) := by decide +kernel
theorem dX5_told_92 : decode cX5_told 92 = .ok (.iaload, 1) := by decide +kernel
theorem dX5_told_93 : decode cX5_told 93 = .ok (.ireturn, 1) := by decide +kernel
theorem dX5_told_94 : decode cX5_told 94 = .ok (.aload_n 0, 1) := by decide +kernel
theorem dX5_told_95 : decode cX5_told 95 = .ok (.getfield 68, 3) := by decide +kernel
theorem dX5_told_98 : decode cX5_told 98 = .ok (.iload_n 1, 1) := by decide +kernel
theorem dX5_told_99 : decode cX5_told 99 = .ok (.iaload, 1) := by decide +kernel
theorem dX5_told_100 : decode cX5_told 100 = .ok (.ireturn, 1) := by decide +kernel
theorem dX5_told_101 : decode cX5_told 101 = .ok (.aload_n 0, 1) := by decide +kernel
theorem dX5_told_102 : decode cX5_told 102 = .ok (.getfield 71, 3) := by decide +kernel
theorem dX5_told_105 : decode cX5_told 105 = .ok (.iload_n 1, 1) := by decide +kernel
theorem dX5_told_106 : decode cX5_told 106 = .ok (.iaload, 1) := by decide +kernel
theorem dX5_told_107 : decode cX5_told 107 = .ok (.ireturn, 1) := by decide +kernel
theorem dX5_told_108 : decode cX5_told 108 = .ok (.aload_n 0, 1) := by decide +kernel
theorem dX5_told_109 : decode cX5_told 109 = .ok (.getfield 56, 3) := by decide +kernel
theorem dX5_told_112 : decode cX5_told 112 = .ok (.iload_n 1, 1) := by decide +kernel
theorem dX5_told_113 : decode cX5_told 113 = .ok (.iaload, 1) := by decide +kernel
theorem dX5_told_114 : decode cX5_told 114 = .ok (.ireturn, 1) := by decide +kernel
theorem dX5_told_115 : decode cX5_told 115 = .ok (.aload_n 0, 1) := by decide +kernel
theorem dX5_told_116 : decode cX5_told 116 = .ok (.getfield 62, 3) := by decide +kernel
theorem dX5_told_119 : decode cX5_told 119 = .ok (.iload_n 3, 1) := by decide +kernel
theorem dX5_told_120 : decode cX5_told 120 = .ok (.iaload, 1) := by decide +kernel
theorem dX5_told_121 : decode cX5_told 121 = .ok (.ireturn, 1) := by decide +kernel
theorem dX5_told_122 : decode cX5_told 122 = .ok (.aload_n 0, 1) := by decide +kernel
theorem dX5_told_123 : decode cX5_told 123 = .ok (.getfield 65, 3) := by decide +kernel
theorem dX5_told_126 : decode cX5_told 126 = .ok (.iload_n 3, 1) := by decide +kernel
theorem dX5_told_127 : decode cX5_told 127 = .ok (.iaload, 1) := by decide +kernel
theorem dX5_told_128 : decode cX5_told 128 = .ok (.ireturn, 1) := by decide +kernel
theorem dX5_ofAll_0 : decode cX5_ofAll 0 = .ok (.iconst 0, 1) := by decide +kernel
theorem dX5_ofAll_1 : decode cX5_ofAll 1 = .ok (.istore_n 2, 1) := by decide +kernel
theorem dX5_ofAll_2 : decode cX5_ofAll 2 = .ok (.iconst 0, 1) := by decide +kernel
theorem dX5_ofAll_3 : decode cX5_ofAll 3 = .ok (.istore_n 3, 1) := by decide +kernel
theorem dX5_ofAll_4 : decode cX5_ofAll 4 = .ok (.iload_n 3, 1) := by decide +kernel
theorem dX5_ofAll_5 : decode cX5_ofAll 5 = .ok (.bipush 16, 2) := by decide +kernel
theorem dX5_ofAll_7 : decode cX5_ofAll 7 = .ok (.if_icmp .ge 29, 3) := by decide +kernel
theorem dX5_ofAll_10 : decode cX5_ofAll 10 = .ok (.iload_n 2, 1) := by decide +kernel
theorem dX5_ofAll_11 : decode cX5_ofAll 11 = .ok (.aload_n 0, 1) := by decide +kernel
theorem dX5_ofAll_12 : decode cX5_ofAll 12 = .ok (.getfield 25, 3) := by decide +kernel
theorem dX5_ofAll_15 : decode cX5_ofAll 15 = .ok (.bipush 64, 2) := by decide +kernel
theorem dX5_ofAll_17 : decode cX5_ofAll 17 = .ok (.iload_n 3, 1) := by decide +kernel
theorem dX5_ofAll_18 : decode cX5_ofAll 18 = .ok (.iadd, 1) := by decide +kernel
theorem dX5_ofAll_19 : decode cX5_ofAll 19 = .ok (.baload, 1) := by decide +kernel
theorem dX5_ofAll_20 : decode cX5_ofAll 20 = .ok (.ifCond .eq 7, 3) := by decide +kernel
theorem dX5_ofAll_23 : decode cX5_ofAll 23 = .ok (.iconst 1, 1) := by decide +kernel
theorem dX5_ofAll_24 : decode cX5_ofAll 24 = .ok (.goto 4, 3) := by decide +kernel
theorem dX5_ofAll_27 : decode cX5_ofAll 27 = .ok (.iconst 0, 1) := by decide +kernel
theorem dX5_ofAll_28 : decode cX5_ofAll 28 = .ok (.iadd, 1) := by decide +kernel
theorem dX5_ofAll_29 : decode cX5_ofAll 29 = .ok (.istore_n 2, 1) := by decide +kernel
theorem dX5_ofAll_30 : decode cX5_ofAll 30 = .ok (.iinc 3 1, 3) := by decide +kernel
theorem dX5_ofAll_33 : decode cX5_ofAll 33 = .ok (.goto (-29), 3) := by decide +kernel
theorem dX5_ofAll_36 : decode cX5_ofAll 36 = .ok (.iload_n 1, 1) := by decide +kernel
theorem dX5_ofAll_37 : decode cX5_ofAll 37 = .ok (.ifCond .ne 7, 3) := by decide +kernel
theorem dX5_ofAll_40 : decode cX5_ofAll 40 = .ok (.iload_n 2, 1) := by decide +kernel
theorem dX5_ofAll_41 : decode cX5_ofAll 41 = .ok (.goto 31, 3) := by decide +kernel
theorem dX5_ofAll_44 : decode cX5_ofAll 44 = .ok (.iload_n 1, 1) := by decide +kernel
theorem dX5_ofAll_45 : decode cX5_ofAll 45 = .ok (.iconst 1, 1) := by decide +kernel
theorem dX5_ofAll_46 : decode cX5_ofAll 46 = .ok (.if_icmp .ne 10, 3) := by decide +kernel
theorem dX5_ofAll_49 : decode cX5_ofAll 49 = .ok (.aload_n 0, 1) := by decide +kernel
theorem dX5_ofAll_50 : decode cX5_ofAll 50 = .ok (.getfield 108, 3) := by decide +kernel
theorem dX5_ofAll_53 : decode cX5_ofAll 53 = .ok (.goto 19, 3) := by decide +kernel
theorem dX5_ofAll_56 : decode cX5_ofAll 56 = .ok (.iload_n 1, 1) := by decide +kernel
theorem dX5_ofAll_57 : decode cX5_ofAll 57 = .ok (.iconst 2, 1) := by decide +kernel
theorem dX5_ofAll_58 : decode cX5_ofAll 58 = .ok (.if_icmp .ne 10, 3) := by decide +kernel
theorem dX5_ofAll_61 : decode cX5_ofAll 61 = .ok (.aload_n 0, 1) := by decide +kernel
theorem dX5_ofAll_62 : decode cX5_ofAll 62 = .ok (.getfield 97, 3) := by decide +kernel
theorem dX5_ofAll_65 : decode cX5_ofAll 65 = .ok (.goto 7, 3) := by decide +kernel
theorem dX5_ofAll_68 : decode cX5_ofAll 68 = .ok (.aload_n 0, 1) := by decide +kernel
theorem dX5_ofAll_69 : decode cX5_ofAll 69 = .ok (.getfield 129, 3) := by decide +kernel
theorem dX5_ofAll_72 : decode cX5_ofAll 72 = .ok (.ireturn, 1) := by decide +kernel
theorem dX5_fact_0 : decode cX5_fact 0 = .ok (.iload_n 1, 1) := by decide +kernel
theorem dX5_fact_1 : decode cX5_fact 1 = .ok (.iconst 0, 1) := by decide +kernel
theorem dX5_fact_2 : decode cX5_fact 2 = .ok (.iconst 3, 1) := by decide +kernel
theorem dX5_fact_3 : decode cX5_fact 3 = .ok (.invokestatic 101, 3) := by decide +kernel
theorem dX5_fact_6 : decode cX5_fact 6 = .ok (.ifCond .eq 9, 3) := by decide +kernel
theorem dX5_fact_9 : decode cX5_fact 9 = .ok (.aload_n 0, 1) := by decide +kernel
theorem dX5_fact_10 : decode cX5_fact 10 = .ok (.iload_n 1, 1) := by decide +kernel
theorem dX5_fact_11 : decode cX5_fact 11 = .ok (.invokevirtual 171, 3) := by decide +kernel
theorem dX5_fact_14 : decode cX5_fact 14 = .ok (.ireturn, 1) := by decide +kernel
theorem dX5_fact_15 : decode cX5_fact 15 = .ok (.iload_n 1, 1) := by decide +kernel
theorem dX5_fact_16 : decode cX5_fact 16 = .ok (.sipush 600, 3) := by decide +kernel
theorem dX5_fact_19 : decode cX5_fact 19 = .ok (.sipush 605, 3) := by decide +kernel
theorem dX5_fact_22 : decode cX5_fact 22 = .ok (.invokestatic 101, 3) := by decide +kernel
theorem dX5_fact_25 : decode cX5_fact 25 = .ok (.ifCond .eq 17, 3) := by decide +kernel
theorem dX5_fact_28 : decode cX5_fact 28 = .ok (.aload_n 0, 1) := by decide +kernel
theorem dX5_fact_29 : decode cX5_fact 29 = .ok (.getfield 44, 3) := by decide +kernel
theorem dX5_fact_32 : decode cX5_fact 32 = .ok (.bipush 24, 2) := by decide +kernel
theorem dX5_fact_34 : decode cX5_fact 34 = .ok (.iload_n 1, 1) := by decide +kernel
theorem dX5_fact_35 : decode cX5_fact 35 = .ok (.iadd, 1) := by decide +kernel
theorem dX5_fact_36 : decode cX5_fact 36 = .ok (.sipush 600, 3) := by decide +kernel
theorem dX5_fact_39 : decode cX5_fact 39 = .ok (.isub, 1) := by decide +kernel
theorem dX5_fact_40 : decode cX5_fact 40 = .ok (.iaload, 1) := by decide +kernel
theorem dX5_fact_41 : decode cX5_fact 41 = .ok (.ireturn, 1) := by decide +kernel
theorem dX5_fact_42 : decode cX5_fact 42 = .ok (.iload_n 1, 1) := by decide +kernel
theorem dX5_fact_43 : decode cX5_fact 43 = .ok (.bipush 100, 2) := by decide +kernel
theorem dX5_fact_45 : decode cX5_fact 45 = .ok (.irem, 1) := by decide +kernel
theorem dX5_fact_46 : decode cX5_fact 46 = .ok (.istore_n 2, 1) := by decide +kernel
theorem dX5_fact_47 : decode cX5_fact 47 = .ok (.iload_n 1, 1) := by decide +kernel
theorem dX5_fact_48 : decode cX5_fact 48 = .ok (.bipush 100, 2) := by decide +kernel
theorem dX5_fact_50 : decode cX5_fact 50 = .ok (.sipush 599, 3) := by decide +kernel
theorem dX5_fact_53 : decode cX5_fact 53 = .ok (.invokestatic 101, 3) := by decide +kernel
theorem dX5_fact_56 : decode cX5_fact 56 = .ok (.ifCond .eq 17, 3) := by decide +kernel
theorem dX5_fact_59 : decode cX5_fact 59 = .ok (.iload_n 2, 1) := by decide +kernel
theorem dX5_fact_60 : decode cX5_fact 60 = .ok (.bipush 15, 2) := by decide +kernel
theorem dX5_fact_62 : decode cX5_fact 62 = .ok (.if_icmp .gt 11, 3) := by decide +kernel
theorem dX5_fact_65 : decode cX5_fact 65 = .ok (.iload_n 2, 1) := by decide +kernel
theorem dX5_fact_66 : decode cX5_fact 66 = .ok (.aload_n 0, 1) := by decide +kernel
theorem dX5_fact_67 : decode cX5_fact 67 = .ok (.getfield 108, 3) := by decide +kernel
theorem dX5_fact_70 : decode cX5_fact 70 = .ok (.if_icmp .lt 6, 3) := by decide +kernel
theorem dX5_fact_73 : decode cX5_fact 73 = .ok (.bipush (-2), 2) := by decide +kernel
theorem dX5_fact_75 : decode cX5_fact 75 = .ok (.ireturn, 1) := by decide +kernel
theorem dX5_fact_76 : decode cX5_fact 76 = .ok (.bipush 64, 2) := by decide +kernel
theorem dX5_fact_78 : decode cX5_fact 78 = .ok (.iload_n 2, 1) := by decide +kernel
theorem dX5_fact_79 : decode cX5_fact 79 = .ok (.iadd, 1) := by decide +kernel
theorem dX5_fact_80 : decode cX5_fact 80 = .ok (.istore_n 3, 1) := by decide +kernel
theorem dX5_fact_81 : decode cX5_fact 81 = .ok (.iload_n 1, 1) := by decide +kernel
theorem dX5_fact_82 : decode cX5_fact 82 = .ok (.sipush 200, 3) := by decide +kernel
theorem dX5_fact_85 : decode cX5_fact 85 = .ok (.if_icmp .ge 18, 3) := by decide +kernel
theorem dX5_fact_88 : decode cX5_fact 88 = .ok (.aload_n 0, 1) := by decide +kernel
theorem dX5_fact_89 : decode cX5_fact 89 = .ok (.getfield 25, 3) := by decide +kernel
theorem dX5_fact_92 : decode cX5_fact 92 = .ok (.iload_n 3, 1) := by decide +kernel
theorem dX5_fact_93 : decode cX5_fact 93 = .ok (.baload, 1) := by decide +kernel
theorem dX5_fact_94 : decode cX5_fact 94 = .ok (.ifCond .eq 7, 3) := by decide +kernel
theorem dX5_fact_97 : decode cX5_fact 97 = .ok (.iconst 1, 1) := by decide +kernel
theorem dX5_fact_98 : decode cX5_fact 98 = .ok (.goto 4, 3) := by decide +kernel
theorem dX5_fact_101 : decode cX5_fact 101 = .ok (.iconst 0, 1) := by decide +kernel
theorem dX5_fact_102 : decode cX5_fact 102 = .ok (.ireturn, 1) := by decide +kernel
theorem dX5_fact_103 : decode cX5_fact 103 = .ok (.aload_n 0, 1) := by decide +kernel
theorem dX5_fact_104 : decode cX5_fact 104 = .ok (.getfield 25, 3) := by decide +kernel
theorem dX5_fact_107 : decode cX5_fact 107 = .ok (.iload_n 3, 1) := by decide +kernel
theorem dX5_fact_108 : decode cX5_fact 108 = .ok (.baload, 1) := by decide +kernel
theorem dX5_fact_109 : decode cX5_fact 109 = .ok (.ifCond .ne 6, 3) := by decide +kernel
theorem dX5_fact_112 : decode cX5_fact 112 = .ok (.bipush (-2), 2) := by decide +kernel
theorem dX5_fact_114 : decode cX5_fact 114 = .ok (.ireturn, 1) := by decide +kernel
theorem dX5_fact_115 : decode cX5_fact 115 = .ok (.iload_n 1, 1) := by decide +kernel
theorem dX5_fact_116 : decode cX5_fact 116 = .ok (.sipush 500, 3) := by decide +kernel
theorem dX5_fact_119 : decode cX5_fact 119 = .ok (.if_icmp .ge 42, 3) := by decide +kernel
theorem dX5_fact_122 : decode cX5_fact 122 = .ok (.iload_n 1, 1) := by decide +kernel
theorem dX5_fact_123 : decode cX5_fact 123 = .ok (.sipush 300, 3) := by decide +kernel
theorem dX5_fact_126 : decode cX5_fact 126 = .ok (.if_icmp .ge 12, 3) := by decide +kernel
theorem dX5_fact_129 : decode cX5_fact 129 = .ok (.aload_n 0, 1) := by decide +kernel
theorem dX5_fact_130 : decode cX5_fact 130 = .ok (.getfield 29, 3) := by decide +kernel
theorem dX5_fact_133 : decode cX5_fact 133 = .ok (.iload_n 3, 1) := by decide +kernel
theorem dX5_fact_134 : decode cX5_fact 134 = .ok (.iaload, 1) := by decide +kernel
theorem dX5_fact_135 : decode cX5_fact 135 = .ok (.goto 25, 3) := by decide +kernel
theorem dX5_fact_138 : decode cX5_fact 138 = .ok (.iload_n 1, 1) := by decide +kernel
theorem dX5_fact_139 : decode cX5_fact 139 = .ok (.sipush 400, 3) := by decide +kernel
theorem dX5_fact_142 : decode cX5_fact 142 = .ok (.if_icmp .ge 12, 3) := by decide +kernel
theorem dX5_fact_145 : decode cX5_fact 145 = .ok (.aload_n 0, 1) := by decide +kernel
theorem dX5_fact_146 : decode cX5_fact 146 = .ok (.getfield 32, 3) := by decide +kernel
theorem dX5_fact_149 : decode cX5_fact 149 = .ok (.iload_n 3, 1) := by decide +kernel
theorem dX5_fact_150 : decode cX5_fact 150 = .ok (.iaload, 1) := by decide +kernel
theorem dX5_fact_151 : decode cX5_fact 151 = .ok (.goto 9, 3) := by decide +kernel
theorem dX5_fact_154 : decode cX5_fact 154 = .ok (.aload_n 0, 1) := by decide +kernel
theorem dX5_fact_155 : decode cX5_fact 155 = .ok (.getfield 35, 3) := by decide +kernel
theorem dX5_fact_158 : decode cX5_fact 158 = .ok (.iload_n 3, 1) := by decide +kernel
theorem dX5_fact_159 : decode cX5_fact 159 = .ok (.iaload, 1) := by decide +kernel
theorem dX5_fact_160 : decode cX5_fact 160 = .ok (.ireturn, 1) := by decide +kernel
theorem dX5_fact_161 : decode cX5_fact 161 = .ok (.aload_n 0, 1) := by decide +kernel
theorem dX5_fact_162 : decode cX5_fact 162 = .ok (.getfield 38, 3) := by decide +kernel
theorem dX5_fact_165 : decode cX5_fact 165 = .ok (.iload_n 3, 1) := by decide +kernel
theorem dX5_fact_166 : decode cX5_fact 166 = .ok (.iaload, 1) := by decide +kernel
theorem dX5_fact_167 : decode cX5_fact 167 = .ok (.bipush (-2), 2) := by decide +kernel
theorem dX5_fact_169 : decode cX5_fact 169 = .ok (.if_icmp .ne 8, 3) := by decide +kernel
theorem dX5_fact_172 : decode cX5_fact 172 = .ok (.bipush (-3), 2) := by decide +kernel
theorem dX5_fact_174 : decode cX5_fact 174 = .ok (.goto 11, 3) := by decide +kernel
theorem dX5_fact_177 : decode cX5_fact 177 = .ok (.aload_n 0, 1) := by decide +kernel
theorem dX5_fact_178 : decode cX5_fact 178 = .ok (.getfield 38, 3) := by decide +kernel
theorem dX5_fact_181 : decode cX5_fact 181 = .ok (.iload_n 3, 1) := by decide +kernel
theorem dX5_fact_182 : decode cX5_fact 182 = .ok (.iaload, 1) := by decide +kernel
theorem dX5_fact_183 : decode cX5_fact 183 = .ok (.iconst 1, 1) := by decide +kernel
theorem dX5_fact_184 : decode cX5_fact 184 = .ok (.iadd, 1) := by decide +kernel
theorem dX5_fact_185 : decode cX5_fact 185 = .ok (.ireturn, 1) := by decide +kernel
theorem dX5_change_0 : decode cX5_change 0 = .ok (.iload_n 1, 1) := by decide +kernel
theorem dX5_change_1 : decode cX5_change 1 = .ok (.iconst 1, 1) := by decide +kernel
theorem dX5_change_2 : decode cX5_change 2 = .ok (.aload_n 0, 1) := by decide +kernel
theorem dX5_change_3 : decode cX5_change 3 = .ok (.getfield 97, 3) := by decide +kernel
theorem dX5_change_6 : decode cX5_change 6 = .ok (.invokestatic 101, 3) := by decide +kernel
theorem dX5_change_9 : decode cX5_change 9 = .ok (.ifCond .eq 14, 3) := by decide +kernel
theorem dX5_change_12 : decode cX5_change 12 = .ok (.aload_n 0, 1) := by decide +kernel
theorem dX5_change_13 : decode cX5_change 13 = .ok (.getfield 7, 3) := by decide +kernel
theorem dX5_change_16 : decode cX5_change 16 = .ok (.iload_n 1, 1) := by decide +kernel
theorem dX5_change_17 : decode cX5_change 17 = .ok (.iconst 1, 1) := by decide +kernel
theorem dX5_change_18 : decode cX5_change 18 = .ok (.isub, 1) := by decide +kernel
theorem dX5_change_19 : decode cX5_change 19 = .ok (.iaload, 1) := by decide +kernel
theorem dX5_change_20 : decode cX5_change 20 = .ok (.goto 5, 3) := by decide +kernel
theorem dX5_change_23 : decode cX5_change 23 = .ok (.bipush (-2), 2) := by decide +kernel
theorem dX5_change_25 : decode cX5_change 25 = .ok (.ireturn, 1) := by decide +kernel
theorem dJ6_bitCount_0f7a4_0 : decode cJ6_bitCount_0f7a4 0 = .ok (.iload_n 0, 1) := by decide +kernel
theorem dJ6_bitCount_0f7a4_1 : decode cJ6_bitCount_0f7a4 1 = .ok (.iload_n 0, 1) := by decide +kernel
theorem dJ6_bitCount_0f7a4_2 : decode cJ6_bitCount_0f7a4 2 = .ok (.iconst 1, 1) := by decide +kernel
theorem dJ6_bitCount_0f7a4_3 : decode cJ6_bitCount_0f7a4 3 = .ok (.iushr, 1) := by decide +kernel
theorem dJ6_bitCount_0f7a4_4 : decode cJ6_bitCount_0f7a4 4 = .ok (.ldc_w 265, 3) := by decide +kernel
theorem dJ6_bitCount_0f7a4_7 : decode cJ6_bitCount_0f7a4 7 = .ok (.iand, 1) := by decide +kernel
theorem dJ6_bitCount_0f7a4_8 : decode cJ6_bitCount_0f7a4 8 = .ok (.isub, 1) := by decide +kernel
theorem dJ6_bitCount_0f7a4_9 : decode cJ6_bitCount_0f7a4 9 = .ok (.istore_n 0, 1) := by decide +kernel
theorem dJ6_bitCount_0f7a4_10 : decode cJ6_bitCount_0f7a4 10 = .ok (.iload_n 0, 1) := by decide +kernel
theorem dJ6_bitCount_0f7a4_11 : decode cJ6_bitCount_0f7a4 11 = .ok (.ldc_w 266, 3) := by decide +kernel
theorem dJ6_bitCount_0f7a4_14 : decode cJ6_bitCount_0f7a4 14 = .ok (.iand, 1) := by decide +kernel
theorem dJ6_bitCount_0f7a4_15 : decode cJ6_bitCount_0f7a4 15 = .ok (.iload_n 0, 1) := by decide +kernel
theorem dJ6_bitCount_0f7a4_16 : decode cJ6_bitCount_0f7a4 16 = .ok (.iconst 2, 1) := by decide +kernel
theorem dJ6_bitCount_0f7a4_17 : decode cJ6_bitCount_0f7a4 17 = .ok (.iushr, 1) := by decide +kernel
theorem dJ6_bitCount_0f7a4_18 : decode cJ6_bitCount_0f7a4 18 = .ok (.ldc_w 266, 3) := by decide +kernel
theorem dJ6_bitCount_0f7a4_21 : decode cJ6_bitCount_0f7a4 21 = .ok (.iand, 1) := by decide +kernel
theorem dJ6_bitCount_0f7a4_22 : decode cJ6_bitCount_0f7a4 22 = .ok (.iadd, 1) := by decide +kernel
theorem dJ6_bitCount_0f7a4_23 : decode cJ6_bitCount_0f7a4 23 = .ok (.istore_n 0, 1) := by decide +kernel
theorem dJ6_bitCount_0f7a4_24 : decode cJ6_bitCount_0f7a4 24 = .ok (.iload_n 0, 1) := by decide +kernel
theorem dJ6_bitCount_0f7a4_25 : decode cJ6_bitCount_0f7a4 25 = .ok (.iload_n 0, 1) := by decide +kernel
theorem dJ6_bitCount_0f7a4_26 : decode cJ6_bitCount_0f7a4 26 = .ok (.iconst 4, 1) := by decide +kernel
theorem dJ6_bitCount_0f7a4_27 : decode cJ6_bitCount_0f7a4 27 = .ok (.iushr, 1) := by decide +kernel
theorem dJ6_bitCount_0f7a4_28 : decode cJ6_bitCount_0f7a4 28 = .ok (.iadd, 1) := by decide +kernel
theorem dJ6_bitCount_0f7a4_29 : decode cJ6_bitCount_0f7a4 29 = .ok (.ldc_w 267, 3) := by decide +kernel
theorem dJ6_bitCount_0f7a4_32 : decode cJ6_bitCount_0f7a4 32 = .ok (.iand, 1) := by decide +kernel
theorem dJ6_bitCount_0f7a4_33 : decode cJ6_bitCount_0f7a4 33 = .ok (.istore_n 0, 1) := by decide +kernel
theorem dJ6_bitCount_0f7a4_34 : decode cJ6_bitCount_0f7a4 34 = .ok (.iload_n 0, 1) := by decide +kernel
theorem dJ6_bitCount_0f7a4_35 : decode cJ6_bitCount_0f7a4 35 = .ok (.iload_n 0, 1) := by decide +kernel
theorem dJ6_bitCount_0f7a4_36 : decode cJ6_bitCount_0f7a4 36 = .ok (.bipush 8, 2) := by decide +kernel
theorem dJ6_bitCount_0f7a4_38 : decode cJ6_bitCount_0f7a4 38 = .ok (.iushr, 1) := by decide +kernel
theorem dJ6_bitCount_0f7a4_39 : decode cJ6_bitCount_0f7a4 39 = .ok (.iadd, 1) := by decide +kernel
theorem dJ6_bitCount_0f7a4_40 : decode cJ6_bitCount_0f7a4 40 = .ok (.istore_n 0, 1) := by decide +kernel
theorem dJ6_bitCount_0f7a4_41 : decode cJ6_bitCount_0f7a4 41 = .ok (.iload_n 0, 1) := by decide +kernel
theorem dJ6_bitCount_0f7a4_42 : decode cJ6_bitCount_0f7a4 42 = .ok (.iload_n 0, 1) := by decide +kernel
theorem dJ6_bitCount_0f7a4_43 : decode cJ6_bitCount_0f7a4 43 = .ok (.bipush 16, 2) := by decide +kernel
theorem dJ6_bitCount_0f7a4_45 : decode cJ6_bitCount_0f7a4 45 = .ok (.iushr, 1) := by decide +kernel
theorem dJ6_bitCount_0f7a4_46 : decode cJ6_bitCount_0f7a4 46 = .ok (.iadd, 1) := by decide +kernel
theorem dJ6_bitCount_0f7a4_47 : decode cJ6_bitCount_0f7a4 47 = .ok (.istore_n 0, 1) := by decide +kernel
theorem dJ6_bitCount_0f7a4_48 : decode cJ6_bitCount_0f7a4 48 = .ok (.iload_n 0, 1) := by decide +kernel
theorem dJ6_bitCount_0f7a4_49 : decode cJ6_bitCount_0f7a4 49 = .ok (.bipush 63, 2) := by decide +kernel
theorem dJ6_bitCount_0f7a4_51 : decode cJ6_bitCount_0f7a4 51 = .ok (.iand, 1) := by decide +kernel
theorem dJ6_bitCount_0f7a4_52 : decode cJ6_bitCount_0f7a4 52 = .ok (.ireturn, 1) := by decide +kernel
theorem dJ9_floorMod_7cf53_0 : decode cJ9_floorMod_7cf53 0 = .ok (.iload_n 0, 1) := by decide +kernel
theorem dJ9_floorMod_7cf53_1 : decode cJ9_floorMod_7cf53 1 = .ok (.iload_n 1, 1) := by decide +kernel
theorem dJ9_floorMod_7cf53_2 : decode cJ9_floorMod_7cf53 2 = .ok (.irem, 1) := by decide +kernel
theorem dJ9_floorMod_7cf53_3 : decode cJ9_floorMod_7cf53 3 = .ok (.istore_n 2, 1) := by decide +kernel
theorem dJ9_floorMod_7cf53_4 : decode cJ9_floorMod_7cf53 4 = .ok (.iload_n 0, 1) := by decide +kernel
theorem dJ9_floorMod_7cf53_5 : decode cJ9_floorMod_7cf53 5 = .ok (.iload_n 1, 1) := by decide +kernel
theorem dJ9_floorMod_7cf53_6 : decode cJ9_floorMod_7cf53 6 = .ok (.ixor, 1) := by decide +kernel
theorem dJ9_floorMod_7cf53_7 : decode cJ9_floorMod_7cf53 7 = .ok (.ifCond .ge 11, 3) := by decide +kernel
theorem dJ9_floorMod_7cf53_10 : decode cJ9_floorMod_7cf53 10 = .ok (.iload_n 2, 1) := by decide +kernel
theorem dJ9_floorMod_7cf53_11 : decode cJ9_floorMod_7cf53 11 = .ok (.ifCond .eq 7, 3) := by decide +kernel
theorem dJ9_floorMod_7cf53_14 : decode cJ9_floorMod_7cf53 14 = .ok (.iload_n 2, 1) := by decide +kernel
theorem dJ9_floorMod_7cf53_15 : decode cJ9_floorMod_7cf53 15 = .ok (.iload_n 1, 1) := by decide +kernel
theorem dJ9_floorMod_7cf53_16 : decode cJ9_floorMod_7cf53 16 = .ok (.iadd, 1) := by decide +kernel
theorem dJ9_floorMod_7cf53_17 : decode cJ9_floorMod_7cf53 17 = .ok (.ireturn, 1) := by decide +kernel
theorem dJ9_floorMod_7cf53_18 : decode cJ9_floorMod_7cf53 18 = .ok (.iload_n 2, 1) := by decide +kernel
theorem dJ9_floorMod_7cf53_19 : decode cJ9_floorMod_7cf53 19 = .ok (.ireturn, 1) := by decide +kernel
theorem dJ9_abs_0f7a4_0 : decode cJ9_abs_0f7a4 0 = .ok (.iload_n 0, 1) := by decide +kernel
theorem dJ9_abs_0f7a4_1 : decode cJ9_abs_0f7a4 1 = .ok (.ifCond .ge 8, 3) := by decide +kernel
theorem dJ9_abs_0f7a4_4 : decode cJ9_abs_0f7a4 4 = .ok (.iload_n 0, 1) := by decide +kernel
theorem dJ9_abs_0f7a4_5 : decode cJ9_abs_0f7a4 5 = .ok (.ineg, 1) := by decide +kernel
theorem dJ9_abs_0f7a4_6 : decode cJ9_abs_0f7a4 6 = .ok (.goto 4, 3) := by decide +kernel
theorem dJ9_abs_0f7a4_9 : decode cJ9_abs_0f7a4 9 = .ok (.iload_n 0, 1) := by decide +kernel
theorem dJ9_abs_0f7a4_10 : decode cJ9_abs_0f7a4 10 = .ok (.ireturn, 1) := by decide +kernel
theorem dJ9_max_7cf53_0 : decode cJ9_max_7cf53 0 = .ok (.iload_n 0, 1) := by decide +kernel
theorem dJ9_max_7cf53_1 : decode cJ9_max_7cf53 1 = .ok (.iload_n 1, 1) := by decide +kernel
theorem dJ9_max_7cf53_2 : decode cJ9_max_7cf53 2 = .ok (.if_icmp .lt 7, 3) := by decide +kernel
theorem dJ9_max_7cf53_5 : decode cJ9_max_7cf53 5 = .ok (.iload_n 0, 1) := by decide +kernel
theorem dJ9_max_7cf53_6 : decode cJ9_max_7cf53 6 = .ok (.goto 4, 3) := by decide +kernel
theorem dJ9_max_7cf53_9 : decode cJ9_max_7cf53 9 = .ok (.iload_n 1, 1) := by decide +kernel
theorem dJ9_max_7cf53_10 : decode cJ9_max_7cf53 10 = .ok (.ireturn, 1) := by decide +kernel
theorem dJ9_min_7cf53_0 : decode cJ9_min_7cf53 0 = .ok (.iload_n 0, 1) := by decide +kernel
theorem dJ9_min_7cf53_1 : decode cJ9_min_7cf53 1 = .ok (.iload_n 1, 1) := by decide +kernel
theorem dJ9_min_7cf53_2 : decode cJ9_min_7cf53 2 = .ok (.if_icmp .gt 7, 3) := by decide +kernel
theorem dJ9_min_7cf53_5 : decode cJ9_min_7cf53 5 = .ok (.iload_n 0, 1) := by decide +kernel
theorem dJ9_min_7cf53_6 : decode cJ9_min_7cf53 6 = .ok (.goto 4, 3) := by decide +kernel
theorem dJ9_min_7cf53_9 : decode cJ9_min_7cf53 9 = .ok (.iload_n 1, 1) := by decide +kernel
theorem dJ9_min_7cf53_10 : decode cJ9_min_7cf53 10 = .ok (.ireturn, 1) := by decide +kernel
theorem dJ7_fill_d0a16_0 : decode cJ7_fill_d0a16 0 = .ok (.iconst 0, 1) := by decide +kernel
theorem dJ7_fill_d0a16_1 : decode cJ7_fill_d0a16 1 = .ok (.istore_n 3, 1) := by decide +kernel
theorem dJ7_fill_d0a16_2 : decode cJ7_fill_d0a16 2 = .ok (.aload_n 0, 1) := by decide +kernel
theorem dJ7_fill_d0a16_3 : decode cJ7_fill_d0a16 3 = .ok (.arraylength, 1) := by decide +kernel
theorem dJ7_fill_d0a16_4 : decode cJ7_fill_d0a16 4 = .ok (.istore 4, 2) := by decide +kernel
theorem dJ7_fill_d0a16_6 : decode cJ7_fill_d0a16 6 = .ok (.iload_n 3, 1) := by decide +kernel
theorem dJ7_fill_d0a16_7 : decode cJ7_fill_d0a16 7 = .ok (.iload 4, 2) := by decide +kernel
theorem dJ7_fill_d0a16_9 : decode cJ7_fill_d0a16 9 = .ok (.if_icmp .ge 13, 3) := by decide +kernel
theorem dJ7_fill_d0a16_12 : decode cJ7_fill_d0a16 12 = .ok (.aload_n 0, 1) := by decide +kernel
theorem dJ7_fill_d0a16_13 : decode cJ7_fill_d0a16 13 = .ok (.iload_n 3, 1) := by decide +kernel
theorem dJ7_fill_d0a16_14 : decode cJ7_fill_d0a16 14 = .ok (.lload_n 1, 1) := by decide +kernel
theorem dJ7_fill_d0a16_15 : decode cJ7_fill_d0a16 15 = .ok (.lastore, 1) := by decide +kernel
theorem dJ7_fill_d0a16_16 : decode cJ7_fill_d0a16 16 = .ok (.iinc 3 1, 3) := by decide +kernel
theorem dJ7_fill_d0a16_19 : decode cJ7_fill_d0a16 19 = .ok (.goto (-13), 3) := by decide +kernel
theorem dJ7_fill_d0a16_22 : decode cJ7_fill_d0a16 22 = .ok (.return_, 1) := by decide +kernel
theorem dJ7_fill_53178_0 : decode cJ7_fill_53178 0 = .ok (.iconst 0, 1) := by decide +kernel
theorem dJ7_fill_53178_1 : decode cJ7_fill_53178 1 = .ok (.istore_n 2, 1) := by decide +kernel
theorem dJ7_fill_53178_2 : decode cJ7_fill_53178 2 = .ok (.aload_n 0, 1) := by decide +kernel
theorem dJ7_fill_53178_3 : decode cJ7_fill_53178 3 = .ok (.arraylength, 1) := by decide +kernel
theorem dJ7_fill_53178_4 : decode cJ7_fill_53178 4 = .ok (.istore_n 3, 1) := by decide +kernel
theorem dJ7_fill_53178_5 : decode cJ7_fill_53178 5 = .ok (.iload_n 2, 1) := by decide +kernel
theorem dJ7_fill_53178_6 : decode cJ7_fill_53178 6 = .ok (.iload_n 3, 1) := by decide +kernel
theorem dJ7_fill_53178_7 : decode cJ7_fill_53178 7 = .ok (.if_icmp .ge 13, 3) := by decide +kernel
theorem dJ7_fill_53178_10 : decode cJ7_fill_53178 10 = .ok (.aload_n 0, 1) := by decide +kernel
theorem dJ7_fill_53178_11 : decode cJ7_fill_53178 11 = .ok (.iload_n 2, 1) := by decide +kernel
theorem dJ7_fill_53178_12 : decode cJ7_fill_53178 12 = .ok (.iload_n 1, 1) := by decide +kernel
theorem dJ7_fill_53178_13 : decode cJ7_fill_53178 13 = .ok (.iastore, 1) := by decide +kernel
theorem dJ7_fill_53178_14 : decode cJ7_fill_53178 14 = .ok (.iinc 2 1, 3) := by decide +kernel
theorem dJ7_fill_53178_17 : decode cJ7_fill_53178 17 = .ok (.goto (-12), 3) := by decide +kernel
theorem dJ7_fill_53178_20 : decode cJ7_fill_53178 20 = .ok (.return_, 1) := by decide +kernel
theorem dL_law_0 : decode cL_law 0 = .ok (.new 7, 3) := by decide +kernel
theorem dL_law_3 : decode cL_law 3 = .ok (.dup, 1) := by decide +kernel
theorem dL_law_4 : decode cL_law 4 = .ok (.invokespecial 9, 3) := by decide +kernel
theorem dL_law_7 : decode cL_law 7 = .ok (.astore_n 1, 1) := by decide +kernel
theorem dL_law_8 : decode cL_law 8 = .ok (.new 10, 3) := by decide +kernel
theorem dL_law_11 : decode cL_law 11 = .ok (.dup, 1) := by decide +kernel
theorem dL_law_12 : decode cL_law 12 = .ok (.invokespecial 12, 3) := by decide +kernel
theorem dL_law_15 : decode cL_law 15 = .ok (.astore_n 2, 1) := by decide +kernel
theorem dL_law_16 : decode cL_law 16 = .ok (.iconst 0, 1) := by decide +kernel
theorem dL_law_17 : decode cL_law 17 = .ok (.istore_n 3, 1) := by decide +kernel
theorem dL_law_18 : decode cL_law 18 = .ok (.iload_n 3, 1) := by decide +kernel
theorem dL_law_19 : decode cL_law 19 = .ok (.aload_n 0, 1) := by decide +kernel
theorem dL_law_20 : decode cL_law 20 = .ok (.arraylength, 1) := by decide +kernel
theorem dL_law_21 : decode cL_law 21 = .ok (.iconst 5, 1) := by decide +kernel
theorem dL_law_22 : decode cL_law 22 = .ok (.isub, 1) := by decide +kernel
theorem dL_law_23 : decode cL_law 23 = .ok (.if_icmp .gt 870, 3) := by decide +kernel
theorem dL_law_26 : decode cL_law 26 = .ok (.aload_n 0, 1) := by decide +kernel
theorem dL_law_27 : decode cL_law 27 = .ok (.iload_n 3, 1) := by decide +kernel
theorem dL_law_28 : decode cL_law 28 = .ok (.iaload, 1) := by decide +kernel
theorem dL_law_29 : decode cL_law 29 = .ok (.bipush 31, 2) := by decide +kernel
theorem dL_law_31 : decode cL_law 31 = .ok (.iand, 1) := by decide +kernel
theorem dL_law_32 : decode cL_law 32 = .ok (.tableswitch 855 0 18 #[92, 135, 158, 211, 244, 303, 336, 359, 392, 425, 458, 491, 524, 583, 658, 743, 776, 809, 832], 92) := by decide +kernel
theorem dL_law_124 : decode cL_law 124 = .ok (.aload_n 1, 1) := by decide +kernel
theorem dL_law_125 : decode cL_law 125 = .ok (.aload_n 0, 1) := by decide +kernel
theorem dL_law_126 : decode cL_law 126 = .ok (.iload_n 3, 1) := by decide +kernel
theorem dL_law_127 : decode cL_law 127 = .ok (.iconst 1, 1) := by decide +kernel
theorem dL_law_128 : decode cL_law 128 = .ok (.iadd, 1) := by decide +kernel
theorem dL_law_129 : decode cL_law 129 = .ok (.iaload, 1) := by decide +kernel
theorem dL_law_130 : decode cL_law 130 = .ok (.aload_n 0, 1) := by decide +kernel
theorem dL_law_131 : decode cL_law 131 = .ok (.iload_n 3, 1) := by decide +kernel
theorem dL_law_132 : decode cL_law 132 = .ok (.iconst 2, 1) := by decide +kernel
theorem dL_law_133 : decode cL_law 133 = .ok (.iadd, 1) := by decide +kernel
theorem dL_law_134 : decode cL_law 134 = .ok (.iaload, 1) := by decide +kernel
theorem dL_law_135 : decode cL_law 135 = .ok (.aload_n 0, 1) := by decide +kernel
theorem dL_law_136 : decode cL_law 136 = .ok (.iload_n 3, 1) := by decide +kernel
theorem dL_law_137 : decode cL_law 137 = .ok (.iconst 3, 1) := by decide +kernel
theorem dL_law_138 : decode cL_law 138 = .ok (.iadd, 1) := by decide +kernel
theorem dL_law_139 : decode cL_law 139 = .ok (.iaload, 1) := by decide +kernel
theorem dL_law_140 : decode cL_law 140 = .ok (.invokevirtual 13, 3) := by decide +kernel
theorem dL_law_143 : decode cL_law 143 = .ok (.aload_n 2, 1) := by decide +kernel
theorem dL_law_144 : decode cL_law 144 = .ok (.aload_n 0, 1) := by decide +kernel
theorem dL_law_145 : decode cL_law 145 = .ok (.iload_n 3, 1) := by decide +kernel
theorem dL_law_146 : decode cL_law 146 = .ok (.iconst 1, 1) := by decide +kernel
theorem dL_law_147 : decode cL_law 147 = .ok (.iadd, 1) := by decide +kernel
theorem dL_law_148 : decode cL_law 148 = .ok (.iaload, 1) := by decide +kernel
theorem dL_law_149 : decode cL_law 149 = .ok (.aload_n 0, 1) := by decide +kernel
theorem dL_law_150 : decode cL_law 150 = .ok (.iload_n 3, 1) := by decide +kernel
theorem dL_law_151 : decode cL_law 151 = .ok (.iconst 2, 1) := by decide +kernel
theorem dL_law_152 : decode cL_law 152 = .ok (.iadd, 1) := by decide +kernel
theorem dL_law_153 : decode cL_law 153 = .ok (.iaload, 1) := by decide +kernel
theorem dL_law_154 : decode cL_law 154 = .ok (.aload_n 0, 1) := by decide +kernel
theorem dL_law_155 : decode cL_law 155 = .ok (.iload_n 3, 1) := by decide +kernel
theorem dL_law_156 : decode cL_law 156 = .ok (.iconst 3, 1) := by decide +kernel
theorem dL_law_157 : decode cL_law 157 = .ok (.iadd, 1) := by decide +kernel
theorem dL_law_158 : decode cL_law 158 = .ok (.iaload, 1) := by decide +kernel
theorem dL_law_159 : decode cL_law 159 = .ok (.invokevirtual 17, 3) := by decide +kernel
theorem dL_law_162 : decode cL_law 162 = .ok (.if_icmp .eq 725, 3) := by decide +kernel
theorem dL_law_165 : decode cL_law 165 = .ok (.iconst 0, 1) := by decide +kernel
theorem dL_law_166 : decode cL_law 166 = .ok (.ireturn, 1) := by decide +kernel
theorem dL_law_167 : decode cL_law 167 = .ok (.aload_n 1, 1) := by decide +kernel
theorem dL_law_168 : decode cL_law 168 = .ok (.aload_n 0, 1) := by decide +kernel
theorem dL_law_169 : decode cL_law 169 = .ok (.iload_n 3, 1) := by decide +kernel
theorem dL_law_170 : decode cL_law 170 = .ok (.iconst 1, 1) := by decide +kernel
theorem dL_law_171 : decode cL_law 171 = .ok (.iadd, 1) := by decide +kernel
theorem dL_law_172 : decode cL_law 172 = .ok (.iaload, 1) := by decide +kernel
theorem dL_law_173 : decode cL_law 173 = .ok (.invokevirtual 18, 3) := by decide +kernel
theorem dL_law_176 : decode cL_law 176 = .ok (.aload_n 2, 1) := by decide +kernel
theorem dL_law_177 : decode cL_law 177 = .ok (.aload_n 0, 1) := by decide +kernel
theorem dL_law_178 : decode cL_law 178 = .ok (.iload_n 3, 1) := by decide +kernel
theorem dL_law_179 : decode cL_law 179 = .ok (.iconst 1, 1) := by decide +kernel
theorem dL_law_180 : decode cL_law 180 = .ok (.iadd, 1) := by decide +kernel
theorem dL_law_181 : decode cL_law 181 = .ok (.iaload, 1) := by decide +kernel
theorem dL_law_182 : decode cL_law 182 = .ok (.invokevirtual 22, 3) := by decide +kernel
theorem dL_law_185 : decode cL_law 185 = .ok (.if_icmp .eq 702, 3) := by decide +kernel
theorem dL_law_188 : decode cL_law 188 = .ok (.iconst 0, 1) := by decide +kernel
theorem dL_law_189 : decode cL_law 189 = .ok (.ireturn, 1) := by decide +kernel
theorem dL_law_190 : decode cL_law 190 = .ok (.aload_n 1, 1) := by decide +kernel
theorem dL_law_191 : decode cL_law 191 = .ok (.aload_n 0, 1) := by decide +kernel
theorem dL_law_192 : decode cL_law 192 = .ok (.iload_n 3, 1) := by decide +kernel
theorem dL_law_193 : decode cL_law 193 = .ok (.iconst 1, 1) := by decide +kernel
theorem dL_law_194 : decode cL_law 194 = .ok (.iadd, 1) := by decide +kernel
theorem dL_law_195 : decode cL_law 195 = .ok (.iaload, 1) := by decide +kernel
theorem dL_law_196 : decode cL_law 196 = .ok (.aload_n 0, 1) := by decide +kernel
theorem dL_law_197 : decode cL_law 197 = .ok (.iload_n 3, 1) := by decide +kernel
theorem dL_law_198 : decode cL_law 198 = .ok (.iconst 2, 1) := by decide +kernel
theorem dL_law_199 : decode cL_law 199 = .ok (.iadd, 1) := by decide +kernel
theorem dL_law_200 : decode cL_law 200 = .ok (.iaload, 1) := by decide +kernel
theorem dL_law_201 : decode cL_law 201 = .ok (.aload_n 0, 1) := by decide +kernel
theorem dL_law_202 : decode cL_law 202 = .ok (.iload_n 3, 1) := by decide +kernel
theorem dL_law_203 : decode cL_law 203 = .ok (.iconst 3, 1) := by decide +kernel
theorem dL_law_204 : decode cL_law 204 = .ok (.iadd, 1) := by decide +kernel
theorem dL_law_205 : decode cL_law 205 = .ok (.iaload, 1) := by decide +kernel
theorem dL_law_206 : decode cL_law 206 = .ok (.aload_n 0, 1) := by decide +kernel
theorem dL_law_207 : decode cL_law 207 = .ok (.iload_n 3, 1) := by decide +kernel
theorem dL_law_208 : decode cL_law 208 = .ok (.iconst 4, 1) := by decide +kernel
theorem dL_law_209 : decode cL_law 209 = .ok (.iadd, 1) := by decide +kernel
theorem dL_law_210 : decode cL_law 210 = .ok (.iaload, 1) := by decide +kernel
theorem dL_law_211 : decode cL_law 211 = .ok (.invokevirtual 23, 3) := by decide +kernel
theorem dL_law_214 : decode cL_law 214 = .ok (.aload_n 2, 1) := by decide +kernel
theorem dL_law_215 : decode cL_law 215 = .ok (.aload_n 0, 1) := by decide +kernel
theorem dL_law_216 : decode cL_law 216 = .ok (.iload_n 3, 1) := by decide +kernel
theorem dL_law_217 : decode cL_law 217 = .ok (.iconst 1, 1) := by decide +kernel
theorem dL_law_218 : decode cL_law 218 = .ok (.iadd, 1) := by decide +kernel
theorem dL_law_219 : decode cL_law 219 = .ok (.iaload, 1) := by decide +kernel
theorem dL_law_220 : decode cL_law 220 = .ok (.aload_n 0, 1) := by decide +kernel
theorem dL_law_221 : decode cL_law 221 = .ok (.iload_n 3, 1) := by decide +kernel
theorem dL_law_222 : decode cL_law 222 = .ok (.iconst 2, 1) := by decide +kernel
theorem dL_law_223 : decode cL_law 223 = .ok (.iadd, 1) := by decide +kernel
theorem dL_law_224 : decode cL_law 224 = .ok (.iaload, 1) := by decide +kernel
theorem dL_law_225 : decode cL_law 225 = .ok (.aload_n 0, 1) := by decide +kernel
theorem dL_law_226 : decode cL_law 226 = .ok (.iload_n 3, 1) := by decide +kernel
theorem dL_law_227 : decode cL_law 227 = .ok (.iconst 3, 1) := by decide +kernel
theorem dL_law_228 : decode cL_law 228 = .ok (.iadd, 1) := by decide +kernel
theorem dL_law_229 : decode cL_law 229 = .ok (.iaload, 1) := by decide +kernel
theorem dL_law_230 : decode cL_law 230 = .ok (.aload_n 0, 1) := by decide +kernel
theorem dL_law_231 : decode cL_law 231 = .ok (.iload_n 3, 1) := by decide +kernel
theorem dL_law_232 : decode cL_law 232 = .ok (.iconst 4, 1) := by decide +kernel
theorem dL_law_233 : decode cL_law 233 = .ok (.iadd, 1) := by decide +kernel
theorem dL_law_234 : decode cL_law 234 = .ok (.iaload, 1) := by decide +kernel
theorem dL_law_235 : decode cL_law 235 = .ok (.invokevirtual 27, 3) := by decide +kernel
theorem dL_law_238 : decode cL_law 238 = .ok (.if_icmp .eq 649, 3) := by decide +kernel
theorem dL_law_241 : decode cL_law 241 = .ok (.iconst 0, 1) := by decide +kernel
theorem dL_law_242 : decode cL_law 242 = .ok (.ireturn, 1) := by decide +kernel
theorem dL_law_243 : decode cL_law 243 = .ok (.aload_n 1, 1) := by decide +kernel
theorem dL_law_244 : decode cL_law 244 = .ok (.aload_n 0, 1) := by decide +kernel
theorem dL_law_245 : decode cL_law 245 = .ok (.iload_n 3, 1) := by decide +kernel
theorem dL_law_246 : decode cL_law 246 = .ok (.iconst 1, 1) := by decide +kernel
theorem dL_law_247 : decode cL_law 247 = .ok (.iadd, 1) := by decide +kernel
theorem dL_law_248 : decode cL_law 248 = .ok (.iaload, 1) := by decide +kernel
theorem dL_law_249 : decode cL_law 249 = .ok (.aload_n 0, 1) := by decide +kernel
theorem dL_law_250 : decode cL_law 250 = .ok (.iload_n 3, 1) := by decide +kernel
theorem dL_law_251 : decode cL_law 251 = .ok (.iconst 2, 1) := by decide +kernel
theorem dL_law_252 : decode cL_law 252 = .ok (.iadd, 1) := by decide +kernel
theorem dL_law_253 : decode cL_law 253 = .ok (.iaload, 1) := by decide +kernel
theorem dL_law_254 : decode cL_law 254 = .ok (.invokevirtual 28, 3) := by decide +kernel
theorem dL_law_257 : decode cL_law 257 = .ok (.aload_n 2, 1) := by decide +kernel
theorem dL_law_258 : decode cL_law 258 = .ok (.aload_n 0, 1) := by decide +kernel
theorem dL_law_259 : decode cL_law 259 = .ok (.iload_n 3, 1) := by decide +kernel
theorem dL_law_260 : decode cL_law 260 = .ok (.iconst 1, 1) := by decide +kernel
theorem dL_law_261 : decode cL_law 261 = .ok (.iadd, 1) := by decide +kernel
theorem dL_law_262 : decode cL_law 262 = .ok (.iaload, 1) := by decide +kernel
theorem dL_law_263 : decode cL_law 263 = .ok (.aload_n 0, 1) := by decide +kernel
theorem dL_law_264 : decode cL_law 264 = .ok (.iload_n 3, 1) := by decide +kernel
theorem dL_law_265 : decode cL_law 265 = .ok (.iconst 2, 1) := by decide +kernel
theorem dL_law_266 : decode cL_law 266 = .ok (.iadd, 1) := by decide +kernel
theorem dL_law_267 : decode cL_law 267 = .ok (.iaload, 1) := by decide +kernel
theorem dL_law_268 : decode cL_law 268 = .ok (.invokevirtual 32, 3) := by decide +kernel
theorem dL_law_271 : decode cL_law 271 = .ok (.if_icmp .eq 616, 3) := by decide +kernel
theorem dL_law_274 : decode cL_law 274 = .ok (.iconst 0, 1) := by decide +kernel
theorem dL_law_275 : decode cL_law 275 = .ok (.ireturn, 1) := by decide +kernel
theorem dL_law_276 : decode cL_law 276 = .ok (.aload_n 1, 1) := by decide +kernel
theorem dL_law_277 : decode cL_law 277 = .ok (.aload_n 0, 1) := by decide +kernel
theorem dL_law_278 : decode cL_law 278 = .ok (.iload_n 3, 1) := by decide +kernel
theorem dL_law_279 : decode cL_law 279 = .ok (.iconst 1, 1) := by decide +kernel
theorem dL_law_280 : decode cL_law 280 = .ok (.iadd, 1) := by decide +kernel
theorem dL_law_281 : decode cL_law 281 = .ok (.iaload, 1) := by decide +kernel
theorem dL_law_282 : decode cL_law 282 = .ok (.aload_n 0, 1) := by decide +kernel
theorem dL_law_283 : decode cL_law 283 = .ok (.iload_n 3, 1) := by decide +kernel
theorem dL_law_284 : decode cL_law 284 = .ok (.iconst 2, 1) := by decide +kernel
theorem dL_law_285 : decode cL_law 285 = .ok (.iadd, 1) := by decide +kernel
theorem dL_law_286 : decode cL_law 286 = .ok (.iaload, 1) := by decide +kernel
theorem dL_law_287 : decode cL_law 287 = .ok (.aload_n 0, 1) := by decide +kernel
theorem dL_law_288 : decode cL_law 288 = .ok (.iload_n 3, 1) := by decide +kernel
theorem dL_law_289 : decode cL_law 289 = .ok (.iconst 3, 1) := by decide +kernel
theorem dL_law_290 : decode cL_law 290 = .ok (.iadd, 1) := by decide +kernel
theorem dL_law_291 : decode cL_law 291 = .ok (.iaload, 1) := by decide +kernel
theorem dL_law_292 : decode cL_law 292 = .ok (.ifCond .eq 7, 3) := by decide +kernel
theorem dL_law_295 : decode cL_law 295 = .ok (.iconst 1, 1) := by decide +kernel
theorem dL_law_296 : decode cL_law 296 = .ok (.goto 4, 3) := by decide +kernel
theorem dL_law_299 : decode cL_law 299 = .ok (.iconst 0, 1) := by decide +kernel
theorem dL_law_300 : decode cL_law 300 = .ok (.invokevirtual 33, 3) := by decide +kernel
theorem dL_law_303 : decode cL_law 303 = .ok (.aload_n 2, 1) := by decide +kernel
theorem dL_law_304 : decode cL_law 304 = .ok (.aload_n 0, 1) := by decide +kernel
theorem dL_law_305 : decode cL_law 305 = .ok (.iload_n 3, 1) := by decide +kernel
theorem dL_law_306 : decode cL_law 306 = .ok (.iconst 1, 1) := by decide +kernel
theorem dL_law_307 : decode cL_law 307 = .ok (.iadd, 1) := by decide +kernel
theorem dL_law_308 : decode cL_law 308 = .ok (.iaload, 1) := by decide +kernel
theorem dL_law_309 : decode cL_law 309 = .ok (.aload_n 0, 1) := by decide +kernel
theorem dL_law_310 : decode cL_law 310 = .ok (.iload_n 3, 1) := by decide +kernel
theorem dL_law_311 : decode cL_law 311 = .ok (.iconst 2, 1) := by decide +kernel
theorem dL_law_312 : decode cL_law 312 = .ok (.iadd, 1) := by decide +kernel
theorem dL_law_313 : decode cL_law 313 = .ok (.iaload, 1) := by decide +kernel
theorem dL_law_314 : decode cL_law 314 = .ok (.aload_n 0, 1) := by decide +kernel
theorem dL_law_315 : decode cL_law 315 = .ok (.iload_n 3, 1) := by decide +kernel
theorem dL_law_316 : decode cL_law 316 = .ok (.iconst 3, 1) := by decide +kernel
theorem dL_law_317 : decode cL_law 317 = .ok (.iadd, 1) := by decide +kernel
theorem dL_law_318 : decode cL_law 318 = .ok (.iaload, 1) := by decide +kernel
theorem dL_law_319 : decode cL_law 319 = .ok (.ifCond .eq 7, 3) := by decide +kernel
theorem dL_law_322 : decode cL_law 322 = .ok (.iconst 1, 1) := by decide +kernel
theorem dL_law_323 : decode cL_law 323 = .ok (.goto 4, 3) := by decide +kernel
theorem dL_law_326 : decode cL_law 326 = .ok (.iconst 0, 1) := by decide +kernel
theorem dL_law_327 : decode cL_law 327 = .ok (.invokevirtual 37, 3) := by decide +kernel
theorem dL_law_330 : decode cL_law 330 = .ok (.if_icmp .eq 557, 3) := by decide +kernel
theorem dL_law_333 : decode cL_law 333 = .ok (.iconst 0, 1) := by decide +kernel
theorem dL_law_334 : decode cL_law 334 = .ok (.ireturn, 1) := by decide +kernel
theorem dL_law_335 : decode cL_law 335 = .ok (.aload_n 1, 1) := by decide +kernel
theorem dL_law_336 : decode cL_law 336 = .ok (.aload_n 0, 1) := by decide +kernel
theorem dL_law_337 : decode cL_law 337 = .ok (.iload_n 3, 1) := by decide +kernel
theorem dL_law_338 : decode cL_law 338 = .ok (.iconst 1, 1) := by decide +kernel
theorem dL_law_339 : decode cL_law 339 = .ok (.iadd, 1) := by decide +kernel
theorem dL_law_340 : decode cL_law 340 = .ok (.iaload, 1) := by decide +kernel
theorem dL_law_341 : decode cL_law 341 = .ok (.aload_n 0, 1) := by decide +kernel
theorem dL_law_342 : decode cL_law 342 = .ok (.iload_n 3, 1) := by decide +kernel
theorem dL_law_343 : decode cL_law 343 = .ok (.iconst 2, 1) := by decide +kernel
theorem dL_law_344 : decode cL_law 344 = .ok (.iadd, 1) := by decide +kernel
theorem dL_law_345 : decode cL_law 345 = .ok (.iaload, 1) := by decide +kernel
theorem dL_law_346 : decode cL_law 346 = .ok (.invokevirtual 38, 3) := by decide +kernel
theorem dL_law_349 : decode cL_law 349 = .ok (.aload_n 2, 1) := by decide +kernel
theorem dL_law_350 : decode cL_law 350 = .ok (.aload_n 0, 1) := by decide +kernel
theorem dL_law_351 : decode cL_law 351 = .ok (.iload_n 3, 1) := by decide +kernel
theorem dL_law_352 : decode cL_law 352 = .ok (.iconst 1, 1) := by decide +kernel
theorem dL_law_353 : decode cL_law 353 = .ok (.iadd, 1) := by decide +kernel
theorem dL_law_354 : decode cL_law 354 = .ok (.iaload, 1) := by decide +kernel
theorem dL_law_355 : decode cL_law 355 = .ok (.aload_n 0, 1) := by decide +kernel
theorem dL_law_356 : decode cL_law 356 = .ok (.iload_n 3, 1) := by decide +kernel
theorem dL_law_357 : decode cL_law 357 = .ok (.iconst 2, 1) := by decide +kernel
theorem dL_law_358 : decode cL_law 358 = .ok (.iadd, 1) := by decide +kernel
theorem dL_law_359 : decode cL_law 359 = .ok (.iaload, 1) := by decide +kernel
theorem dL_law_360 : decode cL_law 360 = .ok (.invokevirtual 41, 3) := by decide +kernel
theorem dL_law_363 : decode cL_law 363 = .ok (.if_icmp .eq 524, 3) := by decide +kernel
theorem dL_law_366 : decode cL_law 366 = .ok (.iconst 0, 1) := by decide +kernel
theorem dL_law_367 : decode cL_law 367 = .ok (.ireturn, 1) := by decide +kernel
theorem dL_law_368 : decode cL_law 368 = .ok (.aload_n 1, 1) := by decide +kernel
theorem dL_law_369 : decode cL_law 369 = .ok (.aload_n 0, 1) := by decide +kernel
theorem dL_law_370 : decode cL_law 370 = .ok (.iload_n 3, 1) := by decide +kernel
theorem dL_law_371 : decode cL_law 371 = .ok (.iconst 1, 1) := by decide +kernel
theorem dL_law_372 : decode cL_law 372 = .ok (.iadd, 1) := by decide +kernel
theorem dL_law_373 : decode cL_law 373 = .ok (.iaload, 1) := by decide +kernel
theorem dL_law_374 : decode cL_law 374 = .ok (.invokevirtual 42, 3) := by decide +kernel
theorem dL_law_377 : decode cL_law 377 = .ok (.aload_n 2, 1) := by decide +kernel
theorem dL_law_378 : decode cL_law 378 = .ok (.aload_n 0, 1) := by decide +kernel
theorem dL_law_379 : decode cL_law 379 = .ok (.iload_n 3, 1) := by decide +kernel
theorem dL_law_380 : decode cL_law 380 = .ok (.iconst 1, 1) := by decide +kernel
theorem dL_law_381 : decode cL_law 381 = .ok (.iadd, 1) := by decide +kernel
theorem dL_law_382 : decode cL_law 382 = .ok (.iaload, 1) := by decide +kernel
theorem dL_law_383 : decode cL_law 383 = .ok (.invokevirtual 45, 3) := by decide +kernel
theorem dL_law_386 : decode cL_law 386 = .ok (.if_icmp .eq 501, 3) := by decide +kernel
theorem dL_law_389 : decode cL_law 389 = .ok (.iconst 0, 1) := by decide +kernel
theorem dL_law_390 : decode cL_law 390 = .ok (.ireturn, 1) := by decide +kernel
theorem dL_law_391 : decode cL_law 391 = .ok (.aload_n 1, 1) := by decide +kernel
theorem dL_law_392 : decode cL_law 392 = .ok (.aload_n 0, 1) := by decide +kernel
theorem dL_law_393 : decode cL_law 393 = .ok (.iload_n 3, 1) := by decide +kernel
theorem dL_law_394 : decode cL_law 394 = .ok (.iconst 1, 1) := by decide +kernel
theorem dL_law_395 : decode cL_law 395 = .ok (.iadd, 1) := by decide +kernel
theorem dL_law_396 : decode cL_law 396 = .ok (.iaload, 1) := by decide +kernel
theorem dL_law_397 : decode cL_law 397 = .ok (.aload_n 0, 1) := by decide +kernel
theorem dL_law_398 : decode cL_law 398 = .ok (.iload_n 3, 1) := by decide +kernel
theorem dL_law_399 : decode cL_law 399 = .ok (.iconst 2, 1) := by decide +kernel
theorem dL_law_400 : decode cL_law 400 = .ok (.iadd, 1) := by decide +kernel
theorem dL_law_401 : decode cL_law 401 = .ok (.iaload, 1) := by decide +kernel
theorem dL_law_402 : decode cL_law 402 = .ok (.invokevirtual 46, 3) := by decide +kernel
theorem dL_law_405 : decode cL_law 405 = .ok (.aload_n 2, 1) := by decide +kernel
theorem dL_law_406 : decode cL_law 406 = .ok (.aload_n 0, 1) := by decide +kernel
theorem dL_law_407 : decode cL_law 407 = .ok (.iload_n 3, 1) := by decide +kernel
theorem dL_law_408 : decode cL_law 408 = .ok (.iconst 1, 1) := by decide +kernel
theorem dL_law_409 : decode cL_law 409 = .ok (.iadd, 1) := by decide +kernel
theorem dL_law_410 : decode cL_law 410 = .ok (.iaload, 1) := by decide +kernel
theorem dL_law_411 : decode cL_law 411 = .ok (.aload_n 0, 1) := by decide +kernel
theorem dL_law_412 : decode cL_law 412 = .ok (.iload_n 3, 1) := by decide +kernel
theorem dL_law_413 : decode cL_law 413 = .ok (.iconst 2, 1) := by decide +kernel
theorem dL_law_414 : decode cL_law 414 = .ok (.iadd, 1) := by decide +kernel
theorem dL_law_415 : decode cL_law 415 = .ok (.iaload, 1) := by decide +kernel
theorem dL_law_416 : decode cL_law 416 = .ok (.invokevirtual 49, 3) := by decide +kernel
theorem dL_law_419 : decode cL_law 419 = .ok (.if_icmp .eq 468, 3) := by decide +kernel
theorem dL_law_422 : decode cL_law 422 = .ok (.iconst 0, 1) := by decide +kernel
theorem dL_law_423 : decode cL_law 423 = .ok (.ireturn, 1) := by decide +kernel
theorem dL_law_424 : decode cL_law 424 = .ok (.aload_n 1, 1) := by decide +kernel
theorem dL_law_425 : decode cL_law 425 = .ok (.aload_n 0, 1) := by decide +kernel
theorem dL_law_426 : decode cL_law 426 = .ok (.iload_n 3, 1) := by decide +kernel
theorem dL_law_427 : decode cL_law 427 = .ok (.iconst 1, 1) := by decide +kernel
theorem dL_law_428 : decode cL_law 428 = .ok (.iadd, 1) := by decide +kernel
theorem dL_law_429 : decode cL_law 429 = .ok (.iaload, 1) := by decide +kernel
theorem dL_law_430 : decode cL_law 430 = .ok (.aload_n 0, 1) := by decide +kernel
theorem dL_law_431 : decode cL_law 431 = .ok (.iload_n 3, 1) := by decide +kernel
theorem dL_law_432 : decode cL_law 432 = .ok (.iconst 2, 1) := by decide +kernel
theorem dL_law_433 : decode cL_law 433 = .ok (.iadd, 1) := by decide +kernel
theorem dL_law_434 : decode cL_law 434 = .ok (.iaload, 1) := by decide +kernel
theorem dL_law_435 : decode cL_law 435 = .ok (.invokevirtual 50, 3) := by decide +kernel
theorem dL_law_438 : decode cL_law 438 = .ok (.aload_n 2, 1) := by decide +kernel
theorem dL_law_439 : decode cL_law 439 = .ok (.aload_n 0, 1) := by decide +kernel
theorem dL_law_440 : decode cL_law 440 = .ok (.iload_n 3, 1) := by decide +kernel
theorem dL_law_441 : decode cL_law 441 = .ok (.iconst 1, 1) := by decide +kernel
theorem dL_law_442 : decode cL_law 442 = .ok (.iadd, 1) := by decide +kernel
theorem dL_law_443 : decode cL_law 443 = .ok (.iaload, 1) := by decide +kernel
theorem dL_law_444 : decode cL_law 444 = .ok (.aload_n 0, 1) := by decide +kernel
theorem dL_law_445 : decode cL_law 445 = .ok (.iload_n 3, 1) := by decide +kernel
theorem dL_law_446 : decode cL_law 446 = .ok (.iconst 2, 1) := by decide +kernel
theorem dL_law_447 : decode cL_law 447 = .ok (.iadd, 1) := by decide +kernel
theorem dL_law_448 : decode cL_law 448 = .ok (.iaload, 1) := by decide +kernel
theorem dL_law_449 : decode cL_law 449 = .ok (.invokevirtual 53, 3) := by decide +kernel
theorem dL_law_452 : decode cL_law 452 = .ok (.if_icmp .eq 435, 3) := by decide +kernel
theorem dL_law_455 : decode cL_law 455 = .ok (.iconst 0, 1) := by decide +kernel
theorem dL_law_456 : decode cL_law 456 = .ok (.ireturn, 1) := by decide +kernel
theorem dL_law_457 : decode cL_law 457 = .ok (.aload_n 1, 1) := by decide +kernel
theorem dL_law_458 : decode cL_law 458 = .ok (.aload_n 0, 1) := by decide +kernel
theorem dL_law_459 : decode cL_law 459 = .ok (.iload_n 3, 1) := by decide +kernel
theorem dL_law_460 : decode cL_law 460 = .ok (.iconst 1, 1) := by decide +kernel
theorem dL_law_461 : decode cL_law 461 = .ok (.iadd, 1) := by decide +kernel
theorem dL_law_462 : decode cL_law 462 = .ok (.iaload, 1) := by decide +kernel
theorem dL_law_463 : decode cL_law 463 = .ok (.aload_n 0, 1) := by decide +kernel
theorem dL_law_464 : decode cL_law 464 = .ok (.iload_n 3, 1) := by decide +kernel
theorem dL_law_465 : decode cL_law 465 = .ok (.iconst 2, 1) := by decide +kernel
theorem dL_law_466 : decode cL_law 466 = .ok (.iadd, 1) := by decide +kernel
theorem dL_law_467 : decode cL_law 467 = .ok (.iaload, 1) := by decide +kernel
theorem dL_law_468 : decode cL_law 468 = .ok (.invokevirtual 54, 3) := by decide +kernel
theorem dL_law_471 : decode cL_law 471 = .ok (.aload_n 2, 1) := by decide +kernel
theorem dL_law_472 : decode cL_law 472 = .ok (.aload_n 0, 1) := by decide +kernel
theorem dL_law_473 : decode cL_law 473 = .ok (.iload_n 3, 1) := by decide +kernel
theorem dL_law_474 : decode cL_law 474 = .ok (.iconst 1, 1) := by decide +kernel
theorem dL_law_475 : decode cL_law 475 = .ok (.iadd, 1) := by decide +kernel
theorem dL_law_476 : decode cL_law 476 = .ok (.iaload, 1) := by decide +kernel
theorem dL_law_477 : decode cL_law 477 = .ok (.aload_n 0, 1) := by decide +kernel
theorem dL_law_478 : decode cL_law 478 = .ok (.iload_n 3, 1) := by decide +kernel
theorem dL_law_479 : decode cL_law 479 = .ok (.iconst 2, 1) := by decide +kernel
theorem dL_law_480 : decode cL_law 480 = .ok (.iadd, 1) := by decide +kernel
theorem dL_law_481 : decode cL_law 481 = .ok (.iaload, 1) := by decide +kernel
theorem dL_law_482 : decode cL_law 482 = .ok (.invokevirtual 57, 3) := by decide +kernel
theorem dL_law_485 : decode cL_law 485 = .ok (.if_icmp .eq 402, 3) := by decide +kernel
theorem dL_law_488 : decode cL_law 488 = .ok (.iconst 0, 1) := by decide +kernel
theorem dL_law_489 : decode cL_law 489 = .ok (.ireturn, 1) := by decide +kernel
theorem dL_law_490 : decode cL_law 490 = .ok (.aload_n 1, 1) := by decide +kernel
theorem dL_law_491 : decode cL_law 491 = .ok (.aload_n 0, 1) := by decide +kernel
theorem dL_law_492 : decode cL_law 492 = .ok (.iload_n 3, 1) := by decide +kernel
theorem dL_law_493 : decode cL_law 493 = .ok (.iconst 1, 1) := by decide +kernel
theorem dL_law_494 : decode cL_law 494 = .ok (.iadd, 1) := by decide +kernel
theorem dL_law_495 : decode cL_law 495 = .ok (.iaload, 1) := by decide +kernel
theorem dL_law_496 : decode cL_law 496 = .ok (.aload_n 0, 1) := by decide +kernel
theorem dL_law_497 : decode cL_law 497 = .ok (.iload_n 3, 1) := by decide +kernel
theorem dL_law_498 : decode cL_law 498 = .ok (.iconst 2, 1) := by decide +kernel
theorem dL_law_499 : decode cL_law 499 = .ok (.iadd, 1) := by decide +kernel
theorem dL_law_500 : decode cL_law 500 = .ok (.iaload, 1) := by decide +kernel
theorem dL_law_501 : decode cL_law 501 = .ok (.invokevirtual 58, 3) := by decide +kernel
theorem dL_law_504 : decode cL_law 504 = .ok (.aload_n 2, 1) := by decide +kernel
theorem dL_law_505 : decode cL_law 505 = .ok (.aload_n 0, 1) := by decide +kernel
theorem dL_law_506 : decode cL_law 506 = .ok (.iload_n 3, 1) := by decide +kernel
theorem dL_law_507 : decode cL_law 507 = .ok (.iconst 1, 1) := by decide +kernel
theorem dL_law_508 : decode cL_law 508 = .ok (.iadd, 1) := by decide +kernel
theorem dL_law_509 : decode cL_law 509 = .ok (.iaload, 1) := by decide +kernel
theorem dL_law_510 : decode cL_law 510 = .ok (.aload_n 0, 1) := by decide +kernel
theorem dL_law_511 : decode cL_law 511 = .ok (.iload_n 3, 1) := by decide +kernel
theorem dL_law_512 : decode cL_law 512 = .ok (.iconst 2, 1) := by decide +kernel
theorem dL_law_513 : decode cL_law 513 = .ok (.iadd, 1) := by decide +kernel
theorem dL_law_514 : decode cL_law 514 = .ok (.iaload, 1) := by decide +kernel
theorem dL_law_515 : decode cL_law 515 = .ok (.invokevirtual 61, 3) := by decide +kernel
theorem dL_law_518 : decode cL_law 518 = .ok (.if_icmp .eq 369, 3) := by decide +kernel
theorem dL_law_521 : decode cL_law 521 = .ok (.iconst 0, 1) := by decide +kernel
theorem dL_law_522 : decode cL_law 522 = .ok (.ireturn, 1) := by decide +kernel
theorem dL_law_523 : decode cL_law 523 = .ok (.aload_n 1, 1) := by decide +kernel
theorem dL_law_524 : decode cL_law 524 = .ok (.aload_n 0, 1) := by decide +kernel
theorem dL_law_525 : decode cL_law 525 = .ok (.iload_n 3, 1) := by decide +kernel
theorem dL_law_526 : decode cL_law 526 = .ok (.iconst 1, 1) := by decide +kernel
theorem dL_law_527 : decode cL_law 527 = .ok (.iadd, 1) := by decide +kernel
theorem dL_law_528 : decode cL_law 528 = .ok (.iaload, 1) := by decide +kernel
theorem dL_law_529 : decode cL_law 529 = .ok (.aload_n 0, 1) := by decide +kernel
theorem dL_law_530 : decode cL_law 530 = .ok (.iload_n 3, 1) := by decide +kernel
theorem dL_law_531 : decode cL_law 531 = .ok (.iconst 2, 1) := by decide +kernel
theorem dL_law_532 : decode cL_law 532 = .ok (.iadd, 1) := by decide +kernel
theorem dL_law_533 : decode cL_law 533 = .ok (.iaload, 1) := by decide +kernel
theorem dL_law_534 : decode cL_law 534 = .ok (.invokevirtual 62, 3) := by decide +kernel
theorem dL_law_537 : decode cL_law 537 = .ok (.aload_n 2, 1) := by decide +kernel
theorem dL_law_538 : decode cL_law 538 = .ok (.aload_n 0, 1) := by decide +kernel
theorem dL_law_539 : decode cL_law 539 = .ok (.iload_n 3, 1) := by decide +kernel
theorem dL_law_540 : decode cL_law 540 = .ok (.iconst 1, 1) := by decide +kernel
theorem dL_law_541 : decode cL_law 541 = .ok (.iadd, 1) := by decide +kernel
theorem dL_law_542 : decode cL_law 542 = .ok (.iaload, 1) := by decide +kernel
theorem dL_law_543 : decode cL_law 543 = .ok (.aload_n 0, 1) := by decide +kernel
theorem dL_law_544 : decode cL_law 544 = .ok (.iload_n 3, 1) := by decide +kernel
theorem dL_law_545 : decode cL_law 545 = .ok (.iconst 2, 1) := by decide +kernel
theorem dL_law_546 : decode cL_law 546 = .ok (.iadd, 1) := by decide +kernel
theorem dL_law_547 : decode cL_law 547 = .ok (.iaload, 1) := by decide +kernel
theorem dL_law_548 : decode cL_law 548 = .ok (.invokevirtual 65, 3) := by decide +kernel
theorem dL_law_551 : decode cL_law 551 = .ok (.if_icmp .eq 336, 3) := by decide +kernel
theorem dL_law_554 : decode cL_law 554 = .ok (.iconst 0, 1) := by decide +kernel
theorem dL_law_555 : decode cL_law 555 = .ok (.ireturn, 1) := by decide +kernel
theorem dL_law_556 : decode cL_law 556 = .ok (.aload_n 1, 1) := by decide +kernel
theorem dL_law_557 : decode cL_law 557 = .ok (.aload_n 0, 1) := by decide +kernel
theorem dL_law_558 : decode cL_law 558 = .ok (.iload_n 3, 1) := by decide +kernel
theorem dL_law_559 : decode cL_law 559 = .ok (.iconst 1, 1) := by decide +kernel
theorem dL_law_560 : decode cL_law 560 = .ok (.iadd, 1) := by decide +kernel
theorem dL_law_561 : decode cL_law 561 = .ok (.iaload, 1) := by decide +kernel
theorem dL_law_562 : decode cL_law 562 = .ok (.aload_n 0, 1) := by decide +kernel
theorem dL_law_563 : decode cL_law 563 = .ok (.iload_n 3, 1) := by decide +kernel
theorem dL_law_564 : decode cL_law 564 = .ok (.iconst 2, 1) := by decide +kernel
theorem dL_law_565 : decode cL_law 565 = .ok (.iadd, 1) := by decide +kernel
theorem dL_law_566 : decode cL_law 566 = .ok (.iaload, 1) := by decide +kernel
theorem dL_law_567 : decode cL_law 567 = .ok (.ifCond .eq 7, 3) := by decide +kernel
theorem dL_law_570 : decode cL_law 570 = .ok (.iconst 1, 1) := by decide +kernel
theorem dL_law_571 : decode cL_law 571 = .ok (.goto 4, 3) := by decide +kernel
theorem dL_law_574 : decode cL_law 574 = .ok (.iconst 0, 1) := by decide +kernel
theorem dL_law_575 : decode cL_law 575 = .ok (.aload_n 0, 1) := by decide +kernel
theorem dL_law_576 : decode cL_law 576 = .ok (.iload_n 3, 1) := by decide +kernel
theorem dL_law_577 : decode cL_law 577 = .ok (.iconst 3, 1) := by decide +kernel
theorem dL_law_578 : decode cL_law 578 = .ok (.iadd, 1) := by decide +kernel
theorem dL_law_579 : decode cL_law 579 = .ok (.iaload, 1) := by decide +kernel
theorem dL_law_580 : decode cL_law 580 = .ok (.invokevirtual 66, 3) := by decide +kernel
theorem dL_law_583 : decode cL_law 583 = .ok (.aload_n 2, 1) := by decide +kernel
theorem dL_law_584 : decode cL_law 584 = .ok (.aload_n 0, 1) := by decide +kernel
theorem dL_law_585 : decode cL_law 585 = .ok (.iload_n 3, 1) := by decide +kernel
theorem dL_law_586 : decode cL_law 586 = .ok (.iconst 1, 1) := by decide +kernel
theorem dL_law_587 : decode cL_law 587 = .ok (.iadd, 1) := by decide +kernel
theorem dL_law_588 : decode cL_law 588 = .ok (.iaload, 1) := by decide +kernel
theorem dL_law_589 : decode cL_law 589 = .ok (.aload_n 0, 1) := by decide +kernel
theorem dL_law_590 : decode cL_law 590 = .ok (.iload_n 3, 1) := by decide +kernel
theorem dL_law_591 : decode cL_law 591 = .ok (.iconst 2, 1) := by decide +kernel
theorem dL_law_592 : decode cL_law 592 = .ok (.iadd, 1) := by decide +kernel
theorem dL_law_593 : decode cL_law 593 = .ok (.iaload, 1) := by decide +kernel
theorem dL_law_594 : decode cL_law 594 = .ok (.ifCond .eq 7, 3) := by decide +kernel
theorem dL_law_597 : decode cL_law 597 = .ok (.iconst 1, 1) := by decide +kernel
theorem dL_law_598 : decode cL_law 598 = .ok (.goto 4, 3) := by decide +kernel
theorem dL_law_601 : decode cL_law 601 = .ok (.iconst 0, 1) := by decide +kernel
theorem dL_law_602 : decode cL_law 602 = .ok (.aload_n 0, 1) := by decide +kernel
theorem dL_law_603 : decode cL_law 603 = .ok (.iload_n 3, 1) := by decide +kernel
theorem dL_law_604 : decode cL_law 604 = .ok (.iconst 3, 1) := by decide +kernel
theorem dL_law_605 : decode cL_law 605 = .ok (.iadd, 1) := by decide +kernel
theorem dL_law_606 : decode cL_law 606 = .ok (.iaload, 1) := by decide +kernel
theorem dL_law_607 : decode cL_law 607 = .ok (.invokevirtual 70, 3) := by decide +kernel
theorem dL_law_610 : decode cL_law 610 = .ok (.if_icmp .eq 277, 3) := by decide +kernel
theorem dL_law_613 : decode cL_law 613 = .ok (.iconst 0, 1) := by decide +kernel
theorem dL_law_614 : decode cL_law 614 = .ok (.ireturn, 1) := by decide +kernel
theorem dL_law_615 : decode cL_law 615 = .ok (.aload_n 1, 1) := by decide +kernel
theorem dL_law_616 : decode cL_law 616 = .ok (.aload_n 0, 1) := by decide +kernel
theorem dL_law_617 : decode cL_law 617 = .ok (.iload_n 3, 1) := by decide +kernel
theorem dL_law_618 : decode cL_law 618 = .ok (.iconst 1, 1) := by decide +kernel
theorem dL_law_619 : decode cL_law 619 = .ok (.iadd, 1) := by decide +kernel
theorem dL_law_620 : decode cL_law 620 = .ok (.iaload, 1) := by decide +kernel
theorem dL_law_621 : decode cL_law 621 = .ok (.aload_n 0, 1) := by decide +kernel
theorem dL_law_622 : decode cL_law 622 = .ok (.iload_n 3, 1) := by decide +kernel
theorem dL_law_623 : decode cL_law 623 = .ok (.iconst 2, 1) := by decide +kernel
theorem dL_law_624 : decode cL_law 624 = .ok (.iadd, 1) := by decide +kernel
theorem dL_law_625 : decode cL_law 625 = .ok (.iaload, 1) := by decide +kernel
theorem dL_law_626 : decode cL_law 626 = .ok (.ifCond .eq 7, 3) := by decide +kernel
theorem dL_law_629 : decode cL_law 629 = .ok (.iconst 1, 1) := by decide +kernel
theorem dL_law_630 : decode cL_law 630 = .ok (.goto 4, 3) := by decide +kernel
theorem dL_law_633 : decode cL_law 633 = .ok (.iconst 0, 1) := by decide +kernel
theorem dL_law_634 : decode cL_law 634 = .ok (.aload_n 0, 1) := by decide +kernel
theorem dL_law_635 : decode cL_law 635 = .ok (.iload_n 3, 1) := by decide +kernel
theorem dL_law_636 : decode cL_law 636 = .ok (.iconst 3, 1) := by decide +kernel
theorem dL_law_637 : decode cL_law 637 = .ok (.iadd, 1) := by decide +kernel
theorem dL_law_638 : decode cL_law 638 = .ok (.iaload, 1) := by decide +kernel
theorem dL_law_639 : decode cL_law 639 = .ok (.ifCond .eq 7, 3) := by decide +kernel
theorem dL_law_642 : decode cL_law 642 = .ok (.iconst 1, 1) := by decide +kernel
theorem dL_law_643 : decode cL_law 643 = .ok (.goto 4, 3) := by decide +kernel
theorem dL_law_646 : decode cL_law 646 = .ok (.iconst 0, 1) := by decide +kernel
theorem dL_law_647 : decode cL_law 647 = .ok (.invokevirtual 71, 3) := by decide +kernel
theorem dL_law_650 : decode cL_law 650 = .ok (.aload_n 2, 1) := by decide +kernel
theorem dL_law_651 : decode cL_law 651 = .ok (.aload_n 0, 1) := by decide +kernel
theorem dL_law_652 : decode cL_law 652 = .ok (.iload_n 3, 1) := by decide +kernel
theorem dL_law_653 : decode cL_law 653 = .ok (.iconst 1, 1) := by decide +kernel
theorem dL_law_654 : decode cL_law 654 = .ok (.iadd, 1) := by decide +kernel
theorem dL_law_655 : decode cL_law 655 = .ok (.iaload, 1) := by decide +kernel
theorem dL_law_656 : decode cL_law 656 = .ok (.aload_n 0, 1) := by decide +kernel
theorem dL_law_657 : decode cL_law 657 = .ok (.iload_n 3, 1) := by decide +kernel
theorem dL_law_658 : decode cL_law 658 = .ok (.iconst 2, 1) := by decide +kernel
theorem dL_law_659 : decode cL_law 659 = .ok (.iadd, 1) := by decide +kernel
theorem dL_law_660 : decode cL_law 660 = .ok (.iaload, 1) := by decide +kernel
theorem dL_law_661 : decode cL_law 661 = .ok (.ifCond .eq 7, 3) := by decide +kernel
theorem dL_law_664 : decode cL_law 664 = .ok (.iconst 1, 1) := by decide +kernel
theorem dL_law_665 : decode cL_law 665 = .ok (.goto 4, 3) := by decide +kernel
theorem dL_law_668 : decode cL_law 668 = .ok (.iconst 0, 1) := by decide +kernel
theorem dL_law_669 : decode cL_law 669 = .ok (.aload_n 0, 1) := by decide +kernel
theorem dL_law_670 : decode cL_law 670 = .ok (.iload_n 3, 1) := by decide +kernel
theorem dL_law_671 : decode cL_law 671 = .ok (.iconst 3, 1) := by decide +kernel
theorem dL_law_672 : decode cL_law 672 = .ok (.iadd, 1) := by decide +kernel
theorem dL_law_673 : decode cL_law 673 = .ok (.iaload, 1) := by decide +kernel
theorem dL_law_674 : decode cL_law 674 = .ok (.ifCond .eq 7, 3) := by decide +kernel
theorem dL_law_677 : decode cL_law 677 = .ok (.iconst 1, 1) := by decide +kernel
theorem dL_law_678 : decode cL_law 678 = .ok (.goto 4, 3) := by decide +kernel
theorem dL_law_681 : decode cL_law 681 = .ok (.iconst 0, 1) := by decide +kernel
theorem dL_law_682 : decode cL_law 682 = .ok (.invokevirtual 75, 3) := by decide +kernel
theorem dL_law_685 : decode cL_law 685 = .ok (.if_icmp .eq 202, 3) := by decide +kernel
theorem dL_law_688 : decode cL_law 688 = .ok (.iconst 0, 1) := by decide +kernel
theorem dL_law_689 : decode cL_law 689 = .ok (.ireturn, 1) := by decide +kernel
theorem dL_law_690 : decode cL_law 690 = .ok (.aload_n 1, 1) := by decide +kernel
theorem dL_law_691 : decode cL_law 691 = .ok (.aload_n 0, 1) := by decide +kernel
theorem dL_law_692 : decode cL_law 692 = .ok (.iload_n 3, 1) := by decide +kernel
theorem dL_law_693 : decode cL_law 693 = .ok (.iconst 1, 1) := by decide +kernel
theorem dL_law_694 : decode cL_law 694 = .ok (.iadd, 1) := by decide +kernel
theorem dL_law_695 : decode cL_law 695 = .ok (.iaload, 1) := by decide +kernel
theorem dL_law_696 : decode cL_law 696 = .ok (.aload_n 0, 1) := by decide +kernel
theorem dL_law_697 : decode cL_law 697 = .ok (.iload_n 3, 1) := by decide +kernel
theorem dL_law_698 : decode cL_law 698 = .ok (.iconst 2, 1) := by decide +kernel
theorem dL_law_699 : decode cL_law 699 = .ok (.iadd, 1) := by decide +kernel
theorem dL_law_700 : decode cL_law 700 = .ok (.iaload, 1) := by decide +kernel
theorem dL_law_701 : decode cL_law 701 = .ok (.ifCond .eq 7, 3) := by decide +kernel
theorem dL_law_704 : decode cL_law 704 = .ok (.iconst 1, 1) := by decide +kernel
theorem dL_law_705 : decode cL_law 705 = .ok (.goto 4, 3) := by decide +kernel
theorem dL_law_708 : decode cL_law 708 = .ok (.iconst 0, 1) := by decide +kernel
theorem dL_law_709 : decode cL_law 709 = .ok (.aload_n 0, 1) := by decide +kernel
theorem dL_law_710 : decode cL_law 710 = .ok (.iload_n 3, 1) := by decide +kernel
theorem dL_law_711 : decode cL_law 711 = .ok (.iconst 3, 1) := by decide +kernel
theorem dL_law_712 : decode cL_law 712 = .ok (.iadd, 1) := by decide +kernel
theorem dL_law_713 : decode cL_law 713 = .ok (.iaload, 1) := by decide +kernel
theorem dL_law_714 : decode cL_law 714 = .ok (.ifCond .eq 7, 3) := by decide +kernel
theorem dL_law_717 : decode cL_law 717 = .ok (.iconst 1, 1) := by decide +kernel
theorem dL_law_718 : decode cL_law 718 = .ok (.goto 4, 3) := by decide +kernel
theorem dL_law_721 : decode cL_law 721 = .ok (.iconst 0, 1) := by decide +kernel
theorem dL_law_722 : decode cL_law 722 = .ok (.aload_n 0, 1) := by decide +kernel
theorem dL_law_723 : decode cL_law 723 = .ok (.iload_n 3, 1) := by decide +kernel
theorem dL_law_724 : decode cL_law 724 = .ok (.iconst 4, 1) := by decide +kernel
theorem dL_law_725 : decode cL_law 725 = .ok (.iadd, 1) := by decide +kernel
theorem dL_law_726 : decode cL_law 726 = .ok (.iaload, 1) := by decide +kernel
theorem dL_law_727 : decode cL_law 727 = .ok (.invokevirtual 76, 3) := by decide +kernel
theorem dL_law_730 : decode cL_law 730 = .ok (.aload_n 2, 1) := by decide +kernel
theorem dL_law_731 : decode cL_law 731 = .ok (.aload_n 0, 1) := by decide +kernel
theorem dL_law_732 : decode cL_law 732 = .ok (.iload_n 3, 1) := by decide +kernel
theorem dL_law_733 : decode cL_law 733 = .ok (.iconst 1, 1) := by decide +kernel
theorem dL_law_734 : decode cL_law 734 = .ok (.iadd, 1) := by decide +kernel
theorem dL_law_735 : decode cL_law 735 = .ok (.iaload, 1) := by decide +kernel
theorem dL_law_736 : decode cL_law 736 = .ok (.aload_n 0, 1) := by decide +kernel
theorem dL_law_737 : decode cL_law 737 = .ok (.iload_n 3, 1) := by decide +kernel
theorem dL_law_738 : decode cL_law 738 = .ok (.iconst 2, 1) := by decide +kernel
theorem dL_law_739 : decode cL_law 739 = .ok (.iadd, 1) := by decide +kernel
theorem dL_law_740 : decode cL_law 740 = .ok (.iaload, 1) := by decide +kernel
theorem dL_law_741 : decode cL_law 741 = .ok (.ifCond .eq 7, 3) := by decide +kernel
theorem dL_law_744 : decode cL_law 744 = .ok (.iconst 1, 1) := by decide +kernel
theorem dL_law_745 : decode cL_law 745 = .ok (.goto 4, 3) := by decide +kernel
theorem dL_law_748 : decode cL_law 748 = .ok (.iconst 0, 1) := by decide +kernel
theorem dL_law_749 : decode cL_law 749 = .ok (.aload_n 0, 1) := by decide +kernel
theorem dL_law_750 : decode cL_law 750 = .ok (.iload_n 3, 1) := by decide +kernel
theorem dL_law_751 : decode cL_law 751 = .ok (.iconst 3, 1) := by decide +kernel
theorem dL_law_752 : decode cL_law 752 = .ok (.iadd, 1) := by decide +kernel
theorem dL_law_753 : decode cL_law 753 = .ok (.iaload, 1) := by decide +kernel
theorem dL_law_754 : decode cL_law 754 = .ok (.ifCond .eq 7, 3) := by decide +kernel
theorem dL_law_757 : decode cL_law 757 = .ok (.iconst 1, 1) := by decide +kernel
theorem dL_law_758 : decode cL_law 758 = .ok (.goto 4, 3) := by decide +kernel
theorem dL_law_761 : decode cL_law 761 = .ok (.iconst 0, 1) := by decide +kernel
theorem dL_law_762 : decode cL_law 762 = .ok (.aload_n 0, 1) := by decide +kernel
theorem dL_law_763 : decode cL_law 763 = .ok (.iload_n 3, 1) := by decide +kernel
theorem dL_law_764 : decode cL_law 764 = .ok (.iconst 4, 1) := by decide +kernel
theorem dL_law_765 : decode cL_law 765 = .ok (.iadd, 1) := by decide +kernel
theorem dL_law_766 : decode cL_law 766 = .ok (.iaload, 1) := by decide +kernel
theorem dL_law_767 : decode cL_law 767 = .ok (.invokevirtual 80, 3) := by decide +kernel
theorem dL_law_770 : decode cL_law 770 = .ok (.if_icmp .eq 117, 3) := by decide +kernel
theorem dL_law_773 : decode cL_law 773 = .ok (.iconst 0, 1) := by decide +kernel
theorem dL_law_774 : decode cL_law 774 = .ok (.ireturn, 1) := by decide +kernel
theorem dL_law_775 : decode cL_law 775 = .ok (.aload_n 1, 1) := by decide +kernel
theorem dL_law_776 : decode cL_law 776 = .ok (.aload_n 0, 1) := by decide +kernel
theorem dL_law_777 : decode cL_law 777 = .ok (.iload_n 3, 1) := by decide +kernel
theorem dL_law_778 : decode cL_law 778 = .ok (.iconst 1, 1) := by decide +kernel
theorem dL_law_779 : decode cL_law 779 = .ok (.iadd, 1) := by decide +kernel
theorem dL_law_780 : decode cL_law 780 = .ok (.iaload, 1) := by decide +kernel
theorem dL_law_781 : decode cL_law 781 = .ok (.aload_n 0, 1) := by decide +kernel
theorem dL_law_782 : decode cL_law 782 = .ok (.iload_n 3, 1) := by decide +kernel
theorem dL_law_783 : decode cL_law 783 = .ok (.iconst 2, 1) := by decide +kernel
theorem dL_law_784 : decode cL_law 784 = .ok (.iadd, 1) := by decide +kernel
theorem dL_law_785 : decode cL_law 785 = .ok (.iaload, 1) := by decide +kernel
theorem dL_law_786 : decode cL_law 786 = .ok (.invokevirtual 81, 3) := by decide +kernel
theorem dL_law_789 : decode cL_law 789 = .ok (.aload_n 2, 1) := by decide +kernel
theorem dL_law_790 : decode cL_law 790 = .ok (.aload_n 0, 1) := by decide +kernel
theorem dL_law_791 : decode cL_law 791 = .ok (.iload_n 3, 1) := by decide +kernel
theorem dL_law_792 : decode cL_law 792 = .ok (.iconst 1, 1) := by decide +kernel
theorem dL_law_793 : decode cL_law 793 = .ok (.iadd, 1) := by decide +kernel
theorem dL_law_794 : decode cL_law 794 = .ok (.iaload, 1) := by decide +kernel
theorem dL_law_795 : decode cL_law 795 = .ok (.aload_n 0, 1) := by decide +kernel
theorem dL_law_796 : decode cL_law 796 = .ok (.iload_n 3, 1) := by decide +kernel
theorem dL_law_797 : decode cL_law 797 = .ok (.iconst 2, 1) := by decide +kernel
theorem dL_law_798 : decode cL_law 798 = .ok (.iadd, 1) := by decide +kernel
theorem dL_law_799 : decode cL_law 799 = .ok (.iaload, 1) := by decide +kernel
theorem dL_law_800 : decode cL_law 800 = .ok (.invokevirtual 84, 3) := by decide +kernel
theorem dL_law_803 : decode cL_law 803 = .ok (.if_icmp .eq 84, 3) := by decide +kernel
theorem dL_law_806 : decode cL_law 806 = .ok (.iconst 0, 1) := by decide +kernel
theorem dL_law_807 : decode cL_law 807 = .ok (.ireturn, 1) := by decide +kernel
theorem dL_law_808 : decode cL_law 808 = .ok (.aload_n 1, 1) := by decide +kernel
theorem dL_law_809 : decode cL_law 809 = .ok (.aload_n 0, 1) := by decide +kernel
theorem dL_law_810 : decode cL_law 810 = .ok (.iload_n 3, 1) := by decide +kernel
theorem dL_law_811 : decode cL_law 811 = .ok (.iconst 1, 1) := by decide +kernel
theorem dL_law_812 : decode cL_law 812 = .ok (.iadd, 1) := by decide +kernel
theorem dL_law_813 : decode cL_law 813 = .ok (.iaload, 1) := by decide +kernel
theorem dL_law_814 : decode cL_law 814 = .ok (.aload_n 0, 1) := by decide +kernel
theorem dL_law_815 : decode cL_law 815 = .ok (.iload_n 3, 1) := by decide +kernel
theorem dL_law_816 : decode cL_law 816 = .ok (.iconst 2, 1) := by decide +kernel
theorem dL_law_817 : decode cL_law 817 = .ok (.iadd, 1) := by decide +kernel
theorem dL_law_818 : decode cL_law 818 = .ok (.iaload, 1) := by decide +kernel
theorem dL_law_819 : decode cL_law 819 = .ok (.invokevirtual 85, 3) := by decide +kernel
theorem dL_law_822 : decode cL_law 822 = .ok (.aload_n 2, 1) := by decide +kernel
theorem dL_law_823 : decode cL_law 823 = .ok (.aload_n 0, 1) := by decide +kernel
theorem dL_law_824 : decode cL_law 824 = .ok (.iload_n 3, 1) := by decide +kernel
theorem dL_law_825 : decode cL_law 825 = .ok (.iconst 1, 1) := by decide +kernel
theorem dL_law_826 : decode cL_law 826 = .ok (.iadd, 1) := by decide +kernel
theorem dL_law_827 : decode cL_law 827 = .ok (.iaload, 1) := by decide +kernel
theorem dL_law_828 : decode cL_law 828 = .ok (.aload_n 0, 1) := by decide +kernel
theorem dL_law_829 : decode cL_law 829 = .ok (.iload_n 3, 1) := by decide +kernel
theorem dL_law_830 : decode cL_law 830 = .ok (.iconst 2, 1) := by decide +kernel
theorem dL_law_831 : decode cL_law 831 = .ok (.iadd, 1) := by decide +kernel
theorem dL_law_832 : decode cL_law 832 = .ok (.iaload, 1) := by decide +kernel
theorem dL_law_833 : decode cL_law 833 = .ok (.invokevirtual 88, 3) := by decide +kernel
theorem dL_law_836 : decode cL_law 836 = .ok (.if_icmp .eq 51, 3) := by decide +kernel
theorem dL_law_839 : decode cL_law 839 = .ok (.iconst 0, 1) := by decide +kernel
theorem dL_law_840 : decode cL_law 840 = .ok (.ireturn, 1) := by decide +kernel
theorem dL_law_841 : decode cL_law 841 = .ok (.aload_n 1, 1) := by decide +kernel
theorem dL_law_842 : decode cL_law 842 = .ok (.aload_n 0, 1) := by decide +kernel
theorem dL_law_843 : decode cL_law 843 = .ok (.iload_n 3, 1) := by decide +kernel
theorem dL_law_844 : decode cL_law 844 = .ok (.iconst 1, 1) := by decide +kernel
theorem dL_law_845 : decode cL_law 845 = .ok (.iadd, 1) := by decide +kernel
end
section
theorem dL_law_846 : decode cL_law 846 = .ok (.iaload, 1) := by decide +kernel
theorem dL_law_847 : decode cL_law 847 = .ok (.invokevirtual 89, 3) := by decide +kernel
theorem dL_law_850 : decode cL_law 850 = .ok (.aload_n 2, 1) := by decide +kernel
theorem dL_law_851 : decode cL_law 851 = .ok (.aload_n 0, 1) := by decide +kernel
theorem dL_law_852 : decode cL_law 852 = .ok (.iload_n 3, 1) := by decide +kernel
theorem dL_law_853 : decode cL_law 853 = .ok (.iconst 1, 1) := by decide +kernel
theorem dL_law_854 : decode cL_law 854 = .ok (.iadd, 1) := by decide +kernel
theorem dL_law_855 : decode cL_law 855 = .ok (.iaload, 1) := by decide +kernel
theorem dL_law_856 : decode cL_law 856 = .ok (.invokevirtual 92, 3) := by decide +kernel
theorem dL_law_859 : decode cL_law 859 = .ok (.if_icmp .eq 28, 3) := by decide +kernel
theorem dL_law_862 : decode cL_law 862 = .ok (.iconst 0, 1) := by decide +kernel
theorem dL_law_863 : decode cL_law 863 = .ok (.ireturn, 1) := by decide +kernel
theorem dL_law_864 : decode cL_law 864 = .ok (.aload_n 1, 1) := by decide +kernel
theorem dL_law_865 : decode cL_law 865 = .ok (.aload_n 0, 1) := by decide +kernel
theorem dL_law_866 : decode cL_law 866 = .ok (.iload_n 3, 1) := by decide +kernel
theorem dL_law_867 : decode cL_law 867 = .ok (.iconst 1, 1) := by decide +kernel
theorem dL_law_868 : decode cL_law 868 = .ok (.iadd, 1) := by decide +kernel
theorem dL_law_869 : decode cL_law 869 = .ok (.iaload, 1) := by decide +kernel
theorem dL_law_870 : decode cL_law 870 = .ok (.invokevirtual 93, 3) := by decide +kernel
theorem dL_law_873 : decode cL_law 873 = .ok (.aload_n 2, 1) := by decide +kernel
theorem dL_law_874 : decode cL_law 874 = .ok (.aload_n 0, 1) := by decide +kernel
theorem dL_law_875 : decode cL_law 875 = .ok (.iload_n 3, 1) := by decide +kernel
theorem dL_law_876 : decode cL_law 876 = .ok (.iconst 1, 1) := by decide +kernel
theorem dL_law_877 : decode cL_law 877 = .ok (.iadd, 1) := by decide +kernel
theorem dL_law_878 : decode cL_law 878 = .ok (.iaload, 1) := by decide +kernel
theorem dL_law_879 : decode cL_law 879 = .ok (.invokevirtual 96, 3) := by decide +kernel
theorem dL_law_882 : decode cL_law 882 = .ok (.if_icmp .eq 5, 3) := by decide +kernel
theorem dL_law_885 : decode cL_law 885 = .ok (.iconst 0, 1) := by decide +kernel
theorem dL_law_886 : decode cL_law 886 = .ok (.ireturn, 1) := by decide +kernel
theorem dL_law_887 : decode cL_law 887 = .ok (.iinc 3 5, 3) := by decide +kernel
theorem dL_law_890 : decode cL_law 890 = .ok (.goto (-872), 3) := by decide +kernel
theorem dL_law_893 : decode cL_law 893 = .ok (.iconst 1, 1) := by decide +kernel
theorem dL_law_894 : decode cL_law 894 = .ok (.ireturn, 1) := by decide +kernel
end
section
/-- the words that all methods share: of the tables those that stay -/
def T0 : List Cond := lw_tbl.filter goodWord
theorem inT0 {w : Cond} (i : Nat) (h : lw_tbl[i]? = some w) (hg : goodWord w = true) : w ∈ T0 := List.mem_filter.mpr ⟨List.mem_of_getElem? h, hg⟩
theorem wnL : Cond.initialized RL ∈ T0 := inT0 33 (by decide +kernel) (by decide +kernel)
theorem wnX4 : Cond.initialized RX4 ∈ T0 := inT0 34 (by decide +kernel) (by decide +kernel)
theorem wnX1 : Cond.initialized RX1 ∈ T0 := inT0 35 (by decide +kernel) (by decide +kernel)
theorem wnX0 : Cond.initialized RX0 ∈ T0 := inT0 36 (by decide +kernel) (by decide +kernel)
theorem wnJ7 : Cond.initialized RJ7 ∈ T0 := inT0 37 (by decide +kernel) (by decide +kernel)
theorem wnX5 : Cond.initialized RX5 ∈ T0 := inT0 38 (by decide +kernel) (by decide +kernel)
theorem wnJ9 : Cond.initialized RJ9 ∈ T0 := inT0 39 (by decide +kernel) (by decide +kernel)
theorem wnX3 : Cond.initialized RX3 ∈ T0 := inT0 40 (by decide +kernel) (by decide +kernel)
theorem wnJ6 : Cond.initialized RJ6 ∈ T0 := inT0 41 (by decide +kernel) (by decide +kernel)
theorem wnJ10 : Cond.initialized RJ10 ∈ T0 := inT0 42 (by decide +kernel) (by decide +kernel)
theorem wnX2 : Cond.initialized RX2 ∈ T0 := inT0 43 (by decide +kernel) (by decide +kernel)
theorem wkL_7 : Cond.classLink RL 7 RX4 ∈ T0 := inT0 44 (by decide +kernel) (by decide +kernel)
theorem wjX4 : Cond.instantiable RX4 5 ∈ T0 := inT0 45 (by decide +kernel) (by decide +kernel)
theorem wmL_9 : Cond.methodLink RL 9 yX4_init ∈ T0 := inT0 46 (by decide +kernel) (by decide +kernel)
theorem wiX4_init : Cond.instanceMethod yX4_init ∈ T0 := inT0 47 (by decide +kernel) (by decide +kernel)
theorem wcX4_init : Cond.code yX4_init cX4_init 1 none ∈ T0 := inT0 48 (by decide +kernel) (by decide +kernel)
theorem wmX4_1 : Cond.methodLink RX4 1 objectInit ∈ T0 := inT0 49 (by decide +kernel) (by decide +kernel)
theorem wiJO_init : Cond.instanceMethod objectInit ∈ T0 := inT0 50 (by decide +kernel) (by decide +kernel)
theorem wcJO_init : Cond.code objectInit ⟨#[0xb1]⟩ 1 none ∈ T0 := inT0 51 (by decide +kernel) (by decide +kernel)
theorem wkX4_7 : Cond.classLink RX4 7 RX1 ∈ T0 := inT0 52 (by decide +kernel) (by decide +kernel)
theorem wjX1 : Cond.instantiable RX1 6 ∈ T0 := inT0 53 (by decide +kernel) (by decide +kernel)
theorem wiX1_init : Cond.instanceMethod yX1_init ∈ T0 := inT0 55 (by decide +kernel) (by decide +kernel)
theorem wcX1_init : Cond.code yX1_init cX1_init 1 none ∈ T0 := inT0 56 (by decide +kernel) (by decide +kernel)
theorem wmX1_3 : Cond.methodLink RX1 3 objectInit ∈ T0 := inT0 57 (by decide +kernel) (by decide +kernel)
theorem wfX1_9 : Cond.fieldLink RX1 9 (TX1 0).1 (TX1 0).2.1 (TX1 0).2.2.1 ∈ T0 := inT0 58 (by decide +kernel) (by decide +kernel)
theorem wfX0_71 : Cond.fieldLink RX0 71 (TX1 0).1 (TX1 0).2.1 (TX1 0).2.2.1 ∈ T0 := inT0 59 (by decide +kernel) (by decide +kernel)
theorem wfX3_98 : Cond.fieldLink RX3 98 (TX1 0).1 (TX1 0).2.1 (TX1 0).2.2.1 ∈ T0 := inT0 60 (by decide +kernel) (by decide +kernel)
theorem wfX4_170 : Cond.fieldLink RX4 170 (TX1 0).1 (TX1 0).2.1 (TX1 0).2.2.1 ∈ T0 := inT0 61 (by decide +kernel) (by decide +kernel)
theorem wfX1_15 : Cond.fieldLink RX1 15 (TX1 1).1 (TX1 1).2.1 (TX1 1).2.2.1 ∈ T0 := inT0 62 (by decide +kernel) (by decide +kernel)
theorem wfX0_74 : Cond.fieldLink RX0 74 (TX1 1).1 (TX1 1).2.1 (TX1 1).2.2.1 ∈ T0 := inT0 63 (by decide +kernel) (by decide +kernel)
theorem wfX3_101 : Cond.fieldLink RX3 101 (TX1 1).1 (TX1 1).2.1 (TX1 1).2.2.1 ∈ T0 := inT0 64 (by decide +kernel) (by decide +kernel)
theorem wfX1_18 : Cond.fieldLink RX1 18 (TX1 2).1 (TX1 2).2.1 (TX1 2).2.2.1 ∈ T0 := inT0 65 (by decide +kernel) (by decide +kernel)
theorem wfX0_77 : Cond.fieldLink RX0 77 (TX1 2).1 (TX1 2).2.1 (TX1 2).2.2.1 ∈ T0 := inT0 66 (by decide +kernel) (by decide +kernel)
theorem wfX3_108 : Cond.fieldLink RX3 108 (TX1 2).1 (TX1 2).2.1 (TX1 2).2.2.1 ∈ T0 := inT0 67 (by decide +kernel) (by decide +kernel)
theorem wfX1_21 : Cond.fieldLink RX1 21 (TX1 3).1 (TX1 3).2.1 (TX1 3).2.2.1 ∈ T0 := inT0 68 (by decide +kernel) (by decide +kernel)
theorem wfX0_95 : Cond.fieldLink RX0 95 (TX1 3).1 (TX1 3).2.1 (TX1 3).2.2.1 ∈ T0 := inT0 69 (by decide +kernel) (by decide +kernel)
theorem wfX1_24 : Cond.fieldLink RX1 24 (TX1 4).1 (TX1 4).2.1 (TX1 4).2.2.1 ∈ T0 := inT0 70 (by decide +kernel) (by decide +kernel)
theorem wfX0_98 : Cond.fieldLink RX0 98 (TX1 4).1 (TX1 4).2.1 (TX1 4).2.2.1 ∈ T0 := inT0 71 (by decide +kernel) (by decide +kernel)
theorem wfX1_27 : Cond.fieldLink RX1 27 (TX1 5).1 (TX1 5).2.1 (TX1 5).2.2.1 ∈ T0 := inT0 72 (by decide +kernel) (by decide +kernel)
theorem wfX0_56 : Cond.fieldLink RX0 56 (TX1 5).1 (TX1 5).2.1 (TX1 5).2.2.1 ∈ T0 := inT0 73 (by decide +kernel) (by decide +kernel)
theorem wfX3_71 : Cond.fieldLink RX3 71 (TX1 5).1 (TX1 5).2.1 (TX1 5).2.2.1 ∈ T0 := inT0 74 (by decide +kernel) (by decide +kernel)
theorem wfX4_72 : Cond.fieldLink RX4 72 (TX1 5).1 (TX1 5).2.1 (TX1 5).2.2.1 ∈ T0 := inT0 75 (by decide +kernel) (by decide +kernel)
theorem wa_int : Cond.arrayClass .int ∈ T0 := inT0 89 (by decide +kernel) (by decide +kernel)
theorem wkX4_16 : Cond.classLink RX4 16 RX0 ∈ T0 := inT0 90 (by decide +kernel) (by decide +kernel)
theorem wjX0 : Cond.instantiable RX0 11 ∈ T0 := inT0 91 (by decide +kernel) (by decide +kernel)
theorem wmX4_18 : Cond.methodLink RX4 18 yX0_init ∈ T0 := inT0 92 (by decide +kernel) (by decide +kernel)
theorem wiX0_init : Cond.instanceMethod yX0_init ∈ T0 := inT0 93 (by decide +kernel) (by decide +kernel)
theorem wcX0_init : Cond.code yX0_init cX0_init 1 none ∈ T0 := inT0 94 (by decide +kernel) (by decide +kernel)
theorem wmX0_3 : Cond.methodLink RX0 3 objectInit ∈ T0 := inT0 95 (by decide +kernel) (by decide +kernel)
theorem wmX0_40 : Cond.methodLink RX0 40 yX0_clear ∈ T0 := inT0 96 (by decide +kernel) (by decide +kernel)
theorem wiX0_clear : Cond.instanceMethod yX0_clear ∈ T0 := inT0 98 (by decide +kernel) (by decide +kernel)
theorem wcX0_clear : Cond.code yX0_clear cX0_clear 2 none ∈ T0 := inT0 99 (by decide +kernel) (by decide +kernel)
theorem wmX0_50 : Cond.methodLink RX0 50 yJ7_fill_53178 ∈ T0 := inT0 100 (by decide +kernel) (by decide +kernel)
theorem wtJ7_fill_53178 : Cond.static yJ7_fill_53178 ∈ T0 := inT0 101 (by decide +kernel) (by decide +kernel)
theorem wcJ7_fill_53178 : Cond.code yJ7_fill_53178 cJ7_fill_53178 4 none ∈ T0 := inT0 102 (by decide +kernel) (by decide +kernel)
theorem wfX0_43 : Cond.fieldLink RX0 43 (TX0 0).1 (TX0 0).2.1 (TX0 0).2.2.1 ∈ T0 := inT0 103 (by decide +kernel) (by decide +kernel)
theorem wfX3_68 : Cond.fieldLink RX3 68 (TX0 0).1 (TX0 0).2.1 (TX0 0).2.2.1 ∈ T0 := inT0 104 (by decide +kernel) (by decide +kernel)
theorem wfX4_106 : Cond.fieldLink RX4 106 (TX0 0).1 (TX0 0).2.1 (TX0 0).2.2.1 ∈ T0 := inT0 105 (by decide +kernel) (by decide +kernel)
theorem wfX0_47 : Cond.fieldLink RX0 47 (TX0 1).1 (TX0 1).2.1 (TX0 1).2.2.1 ∈ T0 := inT0 106 (by decide +kernel) (by decide +kernel)
theorem wfX4_40 : Cond.fieldLink RX4 40 (TX0 1).1 (TX0 1).2.1 (TX0 1).2.2.1 ∈ T0 := inT0 107 (by decide +kernel) (by decide +kernel)
theorem wfX0_9 : Cond.fieldLink RX0 9 (TX0 2).1 (TX0 2).2.1 (TX0 2).2.2.1 ∈ T0 := inT0 108 (by decide +kernel) (by decide +kernel)
theorem wfX0_15 : Cond.fieldLink RX0 15 (TX0 3).1 (TX0 3).2.1 (TX0 3).2.2.1 ∈ T0 := inT0 109 (by decide +kernel) (by decide +kernel)
theorem wfX4_180 : Cond.fieldLink RX4 180 (TX0 3).1 (TX0 3).2.1 (TX0 3).2.2.1 ∈ T0 := inT0 110 (by decide +kernel) (by decide +kernel)
theorem wfX0_19 : Cond.fieldLink RX0 19 (TX0 4).1 (TX0 4).2.1 (TX0 4).2.2.1 ∈ T0 := inT0 111 (by decide +kernel) (by decide +kernel)
theorem wfX4_183 : Cond.fieldLink RX4 183 (TX0 4).1 (TX0 4).2.1 (TX0 4).2.2.1 ∈ T0 := inT0 112 (by decide +kernel) (by decide +kernel)
theorem wfX0_22 : Cond.fieldLink RX0 22 (TX0 5).1 (TX0 5).2.1 (TX0 5).2.2.1 ∈ T0 := inT0 113 (by decide +kernel) (by decide +kernel)
theorem wfX4_186 : Cond.fieldLink RX4 186 (TX0 5).1 (TX0 5).2.1 (TX0 5).2.2.1 ∈ T0 := inT0 114 (by decide +kernel) (by decide +kernel)
theorem wfX0_25 : Cond.fieldLink RX0 25 (TX0 6).1 (TX0 6).2.1 (TX0 6).2.2.1 ∈ T0 := inT0 115 (by decide +kernel) (by decide +kernel)
theorem wfX4_61 : Cond.fieldLink RX4 61 (TX0 6).1 (TX0 6).2.1 (TX0 6).2.2.1 ∈ T0 := inT0 116 (by decide +kernel) (by decide +kernel)
theorem wfX0_28 : Cond.fieldLink RX0 28 (TX0 7).1 (TX0 7).2.1 (TX0 7).2.2.1 ∈ T0 := inT0 117 (by decide +kernel) (by decide +kernel)
theorem wfX0_31 : Cond.fieldLink RX0 31 (TX0 8).1 (TX0 8).2.1 (TX0 8).2.2.1 ∈ T0 := inT0 118 (by decide +kernel) (by decide +kernel)
theorem wfX4_163 : Cond.fieldLink RX4 163 (TX0 8).1 (TX0 8).2.1 (TX0 8).2.2.1 ∈ T0 := inT0 119 (by decide +kernel) (by decide +kernel)
theorem wfX0_34 : Cond.fieldLink RX0 34 (TX0 9).1 (TX0 9).2.1 (TX0 9).2.2.1 ∈ T0 := inT0 120 (by decide +kernel) (by decide +kernel)
theorem wfX0_37 : Cond.fieldLink RX0 37 (TX0 10).1 (TX0 10).2.1 (TX0 10).2.2.1 ∈ T0 := inT0 121 (by decide +kernel) (by decide +kernel)
theorem wa_boolean : Cond.arrayClass .boolean ∈ T0 := inT0 145 (by decide +kernel) (by decide +kernel)
theorem wkX4_26 : Cond.classLink RX4 26 RX3 ∈ T0 := inT0 146 (by decide +kernel) (by decide +kernel)
theorem wfX4_10 : Cond.fieldLink RX4 10 (TX4 0).1 (TX4 0).2.1 (TX4 0).2.2.1 ∈ T0 := inT0 148 (by decide +kernel) (by decide +kernel)
theorem wfX4_19 : Cond.fieldLink RX4 19 (TX4 1).1 (TX4 1).2.1 (TX4 1).2.2.1 ∈ T0 := inT0 149 (by decide +kernel) (by decide +kernel)
theorem wfX4_23 : Cond.fieldLink RX4 23 (TX4 2).1 (TX4 2).2.1 (TX4 2).2.2.1 ∈ T0 := inT0 150 (by decide +kernel) (by decide +kernel)
theorem wfX4_28 : Cond.fieldLink RX4 28 (TX4 3).1 (TX4 3).2.1 (TX4 3).2.2.1 ∈ T0 := inT0 151 (by decide +kernel) (by decide +kernel)
theorem wfX4_32 : Cond.fieldLink RX4 32 (TX4 4).1 (TX4 4).2.1 (TX4 4).2.2.1 ∈ T0 := inT0 152 (by decide +kernel) (by decide +kernel)
theorem wmL_13 : Cond.methodLink RL 13 yX4_come ∈ T0 := inT0 164 (by decide +kernel) (by decide +kernel)
theorem wiX4_come : Cond.instanceMethod yX4_come ∈ T0 := inT0 165 (by decide +kernel) (by decide +kernel)
theorem wlX4_come : Cond.selects RX4 yX4_come yX4_come ∈ T0 := inT0 166 (by decide +kernel) (by decide +kernel)
theorem wcX4_come : Cond.code yX4_come cX4_come 4 (some .int) ∈ T0 := inT0 167 (by decide +kernel) (by decide +kernel)
theorem wmX4_36 : Cond.methodLink RX4 36 yX4_areTraits ∈ T0 := inT0 168 (by decide +kernel) (by decide +kernel)
theorem wtX4_areTraits : Cond.static yX4_areTraits ∈ T0 := inT0 169 (by decide +kernel) (by decide +kernel)
theorem wcX4_areTraits : Cond.code yX4_areTraits cX4_areTraits 3 (some .boolean) ∈ T0 := inT0 170 (by decide +kernel) (by decide +kernel)
theorem wmX4_54 : Cond.methodLink RX4 54 yX4_isWithin ∈ T0 := inT0 171 (by decide +kernel) (by decide +kernel)
theorem wtX4_isWithin : Cond.static yX4_isWithin ∈ T0 := inT0 172 (by decide +kernel) (by decide +kernel)
theorem wcX4_isWithin : Cond.code yX4_isWithin cX4_isWithin 3 (some .boolean) ∈ T0 := inT0 173 (by decide +kernel) (by decide +kernel)
theorem wmX4_51 : Cond.methodLink RX4 51 yX4_isRoom ∈ T0 := inT0 174 (by decide +kernel) (by decide +kernel)
theorem wtX4_isRoom : Cond.static yX4_isRoom ∈ T0 := inT0 175 (by decide +kernel) (by decide +kernel)
theorem wcX4_isRoom : Cond.code yX4_isRoom cX4_isRoom 1 (some .boolean) ∈ T0 := inT0 176 (by decide +kernel) (by decide +kernel)
theorem wmX4_43 : Cond.methodLink RX4 43 yX4_enter ∈ T0 := inT0 177 (by decide +kernel) (by decide +kernel)
theorem wiX4_enter : Cond.instanceMethod yX4_enter ∈ T0 := inT0 179 (by decide +kernel) (by decide +kernel)
theorem wcX4_enter : Cond.code yX4_enter cX4_enter 6 (some .int) ∈ T0 := inT0 180 (by decide +kernel) (by decide +kernel)
theorem wmX4_173 : Cond.methodLink RX4 173 yX1_add ∈ T0 := inT0 181 (by decide +kernel) (by decide +kernel)
theorem wiX1_add : Cond.instanceMethod yX1_add ∈ T0 := inT0 182 (by decide +kernel) (by decide +kernel)
theorem wlX1_add : Cond.selects RX1 yX1_add yX1_add ∈ T0 := inT0 183 (by decide +kernel) (by decide +kernel)
theorem wcX1_add : Cond.code yX1_add cX1_add 6 none ∈ T0 := inT0 184 (by decide +kernel) (by decide +kernel)
theorem wmX4_129 : Cond.methodLink RX4 129 yX0_become ∈ T0 := inT0 185 (by decide +kernel) (by decide +kernel)
theorem wiX0_become : Cond.instanceMethod yX0_become ∈ T0 := inT0 186 (by decide +kernel) (by decide +kernel)
theorem wlX0_become : Cond.selects RX0 yX0_become yX0_become ∈ T0 := inT0 187 (by decide +kernel) (by decide +kernel)
theorem wcX0_become : Cond.code yX0_become cX0_become 5 none ∈ T0 := inT0 188 (by decide +kernel) (by decide +kernel)
theorem wmX0_61 : Cond.methodLink RX0 61 yJ9_min_7cf53 ∈ T0 := inT0 189 (by decide +kernel) (by decide +kernel)
theorem wtJ9_min_7cf53 : Cond.static yJ9_min_7cf53 ∈ T0 := inT0 190 (by decide +kernel) (by decide +kernel)
theorem wcJ9_min_7cf53 : Cond.code yJ9_min_7cf53 cJ9_min_7cf53 2 (some .int) ∈ T0 := inT0 191 (by decide +kernel) (by decide +kernel)
theorem wmX0_67 : Cond.methodLink RX0 67 yX0_learn ∈ T0 := inT0 192 (by decide +kernel) (by decide +kernel)
theorem wiX0_learn : Cond.instanceMethod yX0_learn ∈ T0 := inT0 194 (by decide +kernel) (by decide +kernel)
theorem wcX0_learn : Cond.code yX0_learn cX0_learn 3 none ∈ T0 := inT0 195 (by decide +kernel) (by decide +kernel)
theorem wmX0_80 : Cond.methodLink RX0 80 yX0_learnOfJob ∈ T0 := inT0 196 (by decide +kernel) (by decide +kernel)
theorem wiX0_learnOfJob : Cond.instanceMethod yX0_learnOfJob ∈ T0 := inT0 198 (by decide +kernel) (by decide +kernel)
theorem wcX0_learnOfJob : Cond.code yX0_learnOfJob cX0_learnOfJob 4 none ∈ T0 := inT0 199 (by decide +kernel) (by decide +kernel)
theorem wmX0_84 : Cond.methodLink RX0 84 yX0_setTraits ∈ T0 := inT0 200 (by decide +kernel) (by decide +kernel)
theorem wiX0_setTraits : Cond.instanceMethod yX0_setTraits ∈ T0 := inT0 202 (by decide +kernel) (by decide +kernel)
theorem wcX0_setTraits : Cond.code yX0_setTraits cX0_setTraits 4 none ∈ T0 := inT0 203 (by decide +kernel) (by decide +kernel)
theorem wmX0_87 : Cond.methodLink RX0 87 yX0_leave ∈ T0 := inT0 204 (by decide +kernel) (by decide +kernel)
theorem wiX0_leave : Cond.instanceMethod yX0_leave ∈ T0 := inT0 206 (by decide +kernel) (by decide +kernel)
theorem wcX0_leave : Cond.code yX0_leave cX0_leave 3 none ∈ T0 := inT0 207 (by decide +kernel) (by decide +kernel)
theorem wmX0_91 : Cond.methodLink RX0 91 yX0_setApart ∈ T0 := inT0 208 (by decide +kernel) (by decide +kernel)
theorem wiX0_setApart : Cond.instanceMethod yX0_setApart ∈ T0 := inT0 210 (by decide +kernel) (by decide +kernel)
theorem wcX0_setApart : Cond.code yX0_setApart cX0_setApart 4 none ∈ T0 := inT0 211 (by decide +kernel) (by decide +kernel)
theorem wmL_18 : Cond.methodLink RL 18 yX4_go ∈ T0 := inT0 212 (by decide +kernel) (by decide +kernel)
theorem wiX4_go : Cond.instanceMethod yX4_go ∈ T0 := inT0 213 (by decide +kernel) (by decide +kernel)
theorem wlX4_go : Cond.selects RX4 yX4_go yX4_go ∈ T0 := inT0 214 (by decide +kernel) (by decide +kernel)
theorem wcX4_go : Cond.code yX4_go cX4_go 2 (some .int) ∈ T0 := inT0 215 (by decide +kernel) (by decide +kernel)
theorem wmX4_47 : Cond.methodLink RX4 47 yX0_has ∈ T0 := inT0 216 (by decide +kernel) (by decide +kernel)
theorem wiX0_has : Cond.instanceMethod yX0_has ∈ T0 := inT0 217 (by decide +kernel) (by decide +kernel)
theorem wlX0_has : Cond.selects RX0 yX0_has yX0_has ∈ T0 := inT0 218 (by decide +kernel) (by decide +kernel)
theorem wcX0_has : Cond.code yX0_has cX0_has 2 (some .boolean) ∈ T0 := inT0 219 (by decide +kernel) (by decide +kernel)
theorem wmL_23 : Cond.methodLink RL 23 yX4_turn ∈ T0 := inT0 221 (by decide +kernel) (by decide +kernel)
theorem wiX4_turn : Cond.instanceMethod yX4_turn ∈ T0 := inT0 222 (by decide +kernel) (by decide +kernel)
theorem wlX4_turn : Cond.selects RX4 yX4_turn yX4_turn ∈ T0 := inT0 223 (by decide +kernel) (by decide +kernel)
theorem wcX4_turn : Cond.code yX4_turn cX4_turn 5 (some .int) ∈ T0 := inT0 224 (by decide +kernel) (by decide +kernel)
theorem wmL_28 : Cond.methodLink RL 28 yX4_size ∈ T0 := inT0 225 (by decide +kernel) (by decide +kernel)
theorem wiX4_size : Cond.instanceMethod yX4_size ∈ T0 := inT0 226 (by decide +kernel) (by decide +kernel)
theorem wlX4_size : Cond.selects RX4 yX4_size yX4_size ∈ T0 := inT0 227 (by decide +kernel) (by decide +kernel)
theorem wcX4_size : Cond.code yX4_size cX4_size 3 (some .int) ∈ T0 := inT0 228 (by decide +kernel) (by decide +kernel)
theorem wmL_33 : Cond.methodLink RL 33 yX4_apart ∈ T0 := inT0 229 (by decide +kernel) (by decide +kernel)
theorem wiX4_apart : Cond.instanceMethod yX4_apart ∈ T0 := inT0 230 (by decide +kernel) (by decide +kernel)
theorem wlX4_apart : Cond.selects RX4 yX4_apart yX4_apart ∈ T0 := inT0 231 (by decide +kernel) (by decide +kernel)
theorem wcX4_apart : Cond.code yX4_apart cX4_apart 4 (some .int) ∈ T0 := inT0 232 (by decide +kernel) (by decide +kernel)
theorem wmX4_57 : Cond.methodLink RX4 57 yX0_areApart ∈ T0 := inT0 233 (by decide +kernel) (by decide +kernel)
theorem wiX0_areApart : Cond.instanceMethod yX0_areApart ∈ T0 := inT0 234 (by decide +kernel) (by decide +kernel)
theorem wlX0_areApart : Cond.selects RX0 yX0_areApart yX0_areApart ∈ T0 := inT0 235 (by decide +kernel) (by decide +kernel)
theorem wcX0_areApart : Cond.code yX0_areApart cX0_areApart 3 (some .boolean) ∈ T0 := inT0 236 (by decide +kernel) (by decide +kernel)
theorem wmL_38 : Cond.methodLink RL 38 yX4_lock ∈ T0 := inT0 237 (by decide +kernel) (by decide +kernel)
theorem wiX4_lock : Cond.instanceMethod yX4_lock ∈ T0 := inT0 238 (by decide +kernel) (by decide +kernel)
theorem wlX4_lock : Cond.selects RX4 yX4_lock yX4_lock ∈ T0 := inT0 239 (by decide +kernel) (by decide +kernel)
theorem wcX4_lock : Cond.code yX4_lock cX4_lock 3 (some .int) ∈ T0 := inT0 240 (by decide +kernel) (by decide +kernel)
theorem wmL_42 : Cond.methodLink RL 42 yX4_free ∈ T0 := inT0 241 (by decide +kernel) (by decide +kernel)
theorem wiX4_free : Cond.instanceMethod yX4_free ∈ T0 := inT0 242 (by decide +kernel) (by decide +kernel)
theorem wlX4_free : Cond.selects RX4 yX4_free yX4_free ∈ T0 := inT0 243 (by decide +kernel) (by decide +kernel)
theorem wcX4_free : Cond.code yX4_free cX4_free 2 (some .int) ∈ T0 := inT0 244 (by decide +kernel) (by decide +kernel)
theorem wmL_46 : Cond.methodLink RL 46 yX4_solve ∈ T0 := inT0 245 (by decide +kernel) (by decide +kernel)
theorem wiX4_solve : Cond.instanceMethod yX4_solve ∈ T0 := inT0 246 (by decide +kernel) (by decide +kernel)
theorem wlX4_solve : Cond.selects RX4 yX4_solve yX4_solve ∈ T0 := inT0 247 (by decide +kernel) (by decide +kernel)
theorem wcX4_solve : Cond.code yX4_solve cX4_solve 3 (some .int) ∈ T0 := inT0 248 (by decide +kernel) (by decide +kernel)
theorem wjX3 : Cond.instantiable RX3 12 ∈ T0 := inT0 249 (by decide +kernel) (by decide +kernel)
theorem wmX4_65 : Cond.methodLink RX4 65 yX3_init ∈ T0 := inT0 250 (by decide +kernel) (by decide +kernel)
theorem wiX3_init : Cond.instanceMethod yX3_init ∈ T0 := inT0 251 (by decide +kernel) (by decide +kernel)
theorem wcX3_init : Cond.code yX3_init cX3_init 3 none ∈ T0 := inT0 252 (by decide +kernel) (by decide +kernel)
theorem wmX3_3 : Cond.methodLink RX3 3 objectInit ∈ T0 := inT0 253 (by decide +kernel) (by decide +kernel)
theorem wkX3_9 : Cond.classLink RX3 9 RX0 ∈ T0 := inT0 254 (by decide +kernel) (by decide +kernel)
theorem wmX3_11 : Cond.methodLink RX3 11 yX0_init ∈ T0 := inT0 255 (by decide +kernel) (by decide +kernel)
theorem wtX4_emptyPlan : Cond.static yX4_emptyPlan ∈ T0 := inT0 257 (by decide +kernel) (by decide +kernel)
theorem wcX4_emptyPlan : Cond.code yX4_emptyPlan cX4_emptyPlan 1 (some (.array .int)) ∈ T0 := inT0 258 (by decide +kernel) (by decide +kernel)
theorem wmX4_189 : Cond.methodLink RX4 189 yJ7_fill_53178 ∈ T0 := inT0 259 (by decide +kernel) (by decide +kernel)
theorem wkX3_29 : Cond.classLink RX3 29 RX2 ∈ T0 := inT0 260 (by decide +kernel) (by decide +kernel)
theorem wfX3_12 : Cond.fieldLink RX3 12 (TX3 0).1 (TX3 0).2.1 (TX3 0).2.2.1 ∈ T0 := inT0 262 (by decide +kernel) (by decide +kernel)
theorem wfX4_103 : Cond.fieldLink RX4 103 (TX3 0).1 (TX3 0).2.1 (TX3 0).2.2.1 ∈ T0 := inT0 263 (by decide +kernel) (by decide +kernel)
theorem wfX3_22 : Cond.fieldLink RX3 22 (TX3 1).1 (TX3 1).2.1 (TX3 1).2.2.1 ∈ T0 := inT0 264 (by decide +kernel) (by decide +kernel)
theorem wfX3_26 : Cond.fieldLink RX3 26 (TX3 2).1 (TX3 2).2.1 (TX3 2).2.2.1 ∈ T0 := inT0 265 (by decide +kernel) (by decide +kernel)
theorem wfX3_58 : Cond.fieldLink RX3 58 (TX3 3).1 (TX3 3).2.1 (TX3 3).2.2.1 ∈ T0 := inT0 266 (by decide +kernel) (by decide +kernel)
theorem wfX4_92 : Cond.fieldLink RX4 92 (TX3 3).1 (TX3 3).2.1 (TX3 3).2.2.1 ∈ T0 := inT0 267 (by decide +kernel) (by decide +kernel)
theorem wfX3_31 : Cond.fieldLink RX3 31 (TX3 4).1 (TX3 4).2.1 (TX3 4).2.2.1 ∈ T0 := inT0 268 (by decide +kernel) (by decide +kernel)
theorem wfX4_86 : Cond.fieldLink RX4 86 (TX3 4).1 (TX3 4).2.1 (TX3 4).2.2.1 ∈ T0 := inT0 269 (by decide +kernel) (by decide +kernel)
theorem wfX3_35 : Cond.fieldLink RX3 35 (TX3 5).1 (TX3 5).2.1 (TX3 5).2.2.1 ∈ T0 := inT0 270 (by decide +kernel) (by decide +kernel)
theorem wfX3_38 : Cond.fieldLink RX3 38 (TX3 6).1 (TX3 6).2.1 (TX3 6).2.2.1 ∈ T0 := inT0 271 (by decide +kernel) (by decide +kernel)
theorem wfX4_122 : Cond.fieldLink RX4 122 (TX3 6).1 (TX3 6).2.1 (TX3 6).2.2.1 ∈ T0 := inT0 272 (by decide +kernel) (by decide +kernel)
theorem wfX3_42 : Cond.fieldLink RX3 42 (TX3 7).1 (TX3 7).2.1 (TX3 7).2.2.1 ∈ T0 := inT0 273 (by decide +kernel) (by decide +kernel)
theorem wfX4_118 : Cond.fieldLink RX4 118 (TX3 7).1 (TX3 7).2.1 (TX3 7).2.2.1 ∈ T0 := inT0 274 (by decide +kernel) (by decide +kernel)
theorem wfX3_45 : Cond.fieldLink RX3 45 (TX3 8).1 (TX3 8).2.1 (TX3 8).2.2.1 ∈ T0 := inT0 275 (by decide +kernel) (by decide +kernel)
theorem wfX4_144 : Cond.fieldLink RX4 144 (TX3 8).1 (TX3 8).2.1 (TX3 8).2.2.1 ∈ T0 := inT0 276 (by decide +kernel) (by decide +kernel)
theorem wfX3_55 : Cond.fieldLink RX3 55 (TX3 9).1 (TX3 9).2.1 (TX3 9).2.2.1 ∈ T0 := inT0 277 (by decide +kernel) (by decide +kernel)
theorem wfX4_153 : Cond.fieldLink RX4 153 (TX3 9).1 (TX3 9).2.1 (TX3 9).2.2.1 ∈ T0 := inT0 278 (by decide +kernel) (by decide +kernel)
theorem wfX3_49 : Cond.fieldLink RX3 49 (TX3 10).1 (TX3 10).2.1 (TX3 10).2.2.1 ∈ T0 := inT0 279 (by decide +kernel) (by decide +kernel)
theorem wfX4_147 : Cond.fieldLink RX4 147 (TX3 10).1 (TX3 10).2.1 (TX3 10).2.2.1 ∈ T0 := inT0 280 (by decide +kernel) (by decide +kernel)
theorem wfX3_52 : Cond.fieldLink RX3 52 (TX3 11).1 (TX3 11).2.1 (TX3 11).2.2.1 ∈ T0 := inT0 281 (by decide +kernel) (by decide +kernel)
theorem wfX4_150 : Cond.fieldLink RX4 150 (TX3 11).1 (TX3 11).2.1 (TX3 11).2.2.1 ∈ T0 := inT0 282 (by decide +kernel) (by decide +kernel)
theorem wa_long : Cond.arrayClass .long ∈ T0 := inT0 308 (by decide +kernel) (by decide +kernel)
theorem wmL_50 : Cond.methodLink RL 50 yX4_take ∈ T0 := inT0 309 (by decide +kernel) (by decide +kernel)
theorem wiX4_take : Cond.instanceMethod yX4_take ∈ T0 := inT0 310 (by decide +kernel) (by decide +kernel)
theorem wlX4_take : Cond.selects RX4 yX4_take yX4_take ∈ T0 := inT0 311 (by decide +kernel) (by decide +kernel)
theorem wcX4_take : Cond.code yX4_take cX4_take 4 (some .int) ∈ T0 := inT0 312 (by decide +kernel) (by decide +kernel)
theorem wmX4_68 : Cond.methodLink RX4 68 yX4_solveOf ∈ T0 := inT0 313 (by decide +kernel) (by decide +kernel)
theorem wiX4_solveOf : Cond.instanceMethod yX4_solveOf ∈ T0 := inT0 315 (by decide +kernel) (by decide +kernel)
theorem wcX4_solveOf : Cond.code yX4_solveOf cX4_solveOf 2 (some (.object "LiveChanges$Solve")) ∈ T0 := inT0 316 (by decide +kernel) (by decide +kernel)
theorem wmX4_75 : Cond.methodLink RX4 75 yX3_catchUp ∈ T0 := inT0 317 (by decide +kernel) (by decide +kernel)
theorem wiX3_catchUp : Cond.instanceMethod yX3_catchUp ∈ T0 := inT0 318 (by decide +kernel) (by decide +kernel)
theorem wlX3_catchUp : Cond.selects RX3 yX3_catchUp yX3_catchUp ∈ T0 := inT0 319 (by decide +kernel) (by decide +kernel)
theorem wcX3_catchUp : Cond.code yX3_catchUp cX3_catchUp 6 (some .int) ∈ T0 := inT0 320 (by decide +kernel) (by decide +kernel)
theorem wmX3_76 : Cond.methodLink RX3 76 yJ9_min_7cf53 ∈ T0 := inT0 321 (by decide +kernel) (by decide +kernel)
theorem wmX3_79 : Cond.methodLink RX3 79 yX0_become ∈ T0 := inT0 322 (by decide +kernel) (by decide +kernel)
theorem wmX3_83 : Cond.methodLink RX3 83 yX3_followChange ∈ T0 := inT0 323 (by decide +kernel) (by decide +kernel)
theorem wiX3_followChange : Cond.instanceMethod yX3_followChange ∈ T0 := inT0 325 (by decide +kernel) (by decide +kernel)
theorem wcX3_followChange : Cond.code yX3_followChange cX3_followChange 4 none ∈ T0 := inT0 326 (by decide +kernel) (by decide +kernel)
theorem wmX3_104 : Cond.methodLink RX3 104 yX3_putInBoth ∈ T0 := inT0 327 (by decide +kernel) (by decide +kernel)
theorem wiX3_putInBoth : Cond.instanceMethod yX3_putInBoth ∈ T0 := inT0 329 (by decide +kernel) (by decide +kernel)
theorem wcX3_putInBoth : Cond.code yX3_putInBoth cX3_putInBoth 3 none ∈ T0 := inT0 330 (by decide +kernel) (by decide +kernel)
theorem wmX3_86 : Cond.methodLink RX3 86 yX3_scoreAnew ∈ T0 := inT0 331 (by decide +kernel) (by decide +kernel)
theorem wiX3_scoreAnew : Cond.instanceMethod yX3_scoreAnew ∈ T0 := inT0 333 (by decide +kernel) (by decide +kernel)
theorem wcX3_scoreAnew : Cond.code yX3_scoreAnew cX3_scoreAnew 1 none ∈ T0 := inT0 334 (by decide +kernel) (by decide +kernel)
theorem wmX3_111 : Cond.methodLink RX3 111 yX0_scoreOf ∈ T0 := inT0 335 (by decide +kernel) (by decide +kernel)
theorem wiX0_scoreOf : Cond.instanceMethod yX0_scoreOf ∈ T0 := inT0 336 (by decide +kernel) (by decide +kernel)
theorem wlX0_scoreOf : Cond.selects RX0 yX0_scoreOf yX0_scoreOf ∈ T0 := inT0 337 (by decide +kernel) (by decide +kernel)
theorem wcX0_scoreOf : Cond.code yX0_scoreOf cX0_scoreOf 6 (some .long) ∈ T0 := inT0 338 (by decide +kernel) (by decide +kernel)
theorem wmX0_109 : Cond.methodLink RX0 109 yJ6_bitCount_0f7a4 ∈ T0 := inT0 340 (by decide +kernel) (by decide +kernel)
theorem wtJ6_bitCount_0f7a4 : Cond.static yJ6_bitCount_0f7a4 ∈ T0 := inT0 341 (by decide +kernel) (by decide +kernel)
theorem wcJ6_bitCount_0f7a4 : Cond.code yJ6_bitCount_0f7a4 cJ6_bitCount_0f7a4 1 (some .int) ∈ T0 := inT0 342 (by decide +kernel) (by decide +kernel)
theorem wvJ6_265 : Cond.constant RJ6 265 (1431655765) ∈ T0 := inT0 343 (by decide +kernel) (by decide +kernel)
theorem wvJ6_266 : Cond.constant RJ6 266 (858993459) ∈ T0 := inT0 344 (by decide +kernel) (by decide +kernel)
theorem wvJ6_267 : Cond.constant RJ6 267 (252645135) ∈ T0 := inT0 345 (by decide +kernel) (by decide +kernel)
theorem wmX0_115 : Cond.methodLink RX0 115 yJ9_abs_0f7a4 ∈ T0 := inT0 346 (by decide +kernel) (by decide +kernel)
theorem wtJ9_abs_0f7a4 : Cond.static yJ9_abs_0f7a4 ∈ T0 := inT0 347 (by decide +kernel) (by decide +kernel)
theorem wcJ9_abs_0f7a4 : Cond.code yJ9_abs_0f7a4 cJ9_abs_0f7a4 1 (some .int) ∈ T0 := inT0 348 (by decide +kernel) (by decide +kernel)
theorem wmX0_118 : Cond.methodLink RX0 118 yJ9_max_7cf53 ∈ T0 := inT0 349 (by decide +kernel) (by decide +kernel)
theorem wtJ9_max_7cf53 : Cond.static yJ9_max_7cf53 ∈ T0 := inT0 350 (by decide +kernel) (by decide +kernel)
theorem wcJ9_max_7cf53 : Cond.code yJ9_max_7cf53 cJ9_max_7cf53 2 (some .int) ∈ T0 := inT0 351 (by decide +kernel) (by decide +kernel)
theorem wtX4_scoreFrom : Cond.static yX4_scoreFrom ∈ T0 := inT0 353 (by decide +kernel) (by decide +kernel)
theorem wcX4_scoreFrom : Cond.code yX4_scoreFrom cX4_scoreFrom 2 (some .long) ∈ T0 := inT0 354 (by decide +kernel) (by decide +kernel)
theorem wmX3_89 : Cond.methodLink RX3 89 yX3_keepIfBest ∈ T0 := inT0 355 (by decide +kernel) (by decide +kernel)
theorem wiX3_keepIfBest : Cond.instanceMethod yX3_keepIfBest ∈ T0 := inT0 357 (by decide +kernel) (by decide +kernel)
theorem wcX3_keepIfBest : Cond.code yX3_keepIfBest cX3_keepIfBest 1 none ∈ T0 := inT0 358 (by decide +kernel) (by decide +kernel)
theorem wmX3_115 : Cond.methodLink RX3 115 arraycopyName ∈ T0 := inT0 359 (by decide +kernel) (by decide +kernel)
theorem wtJS_arraycopy : Cond.static arraycopyName ∈ T0 := inT0 360 (by decide +kernel) (by decide +kernel)
theorem wzJS_arraycopy : Cond.native arraycopyName ∈ T0 := inT0 361 (by decide +kernel) (by decide +kernel)
theorem wmX3_92 : Cond.methodLink RX3 92 yJ7_fill_d0a16 ∈ T0 := inT0 362 (by decide +kernel) (by decide +kernel)
theorem wtJ7_fill_d0a16 : Cond.static yJ7_fill_d0a16 ∈ T0 := inT0 363 (by decide +kernel) (by decide +kernel)
theorem wcJ7_fill_d0a16 : Cond.code yJ7_fill_d0a16 cJ7_fill_d0a16 5 none ∈ T0 := inT0 364 (by decide +kernel) (by decide +kernel)
theorem wmL_54 : Cond.methodLink RL 54 yX4_step ∈ T0 := inT0 365 (by decide +kernel) (by decide +kernel)
theorem wiX4_step : Cond.instanceMethod yX4_step ∈ T0 := inT0 366 (by decide +kernel) (by decide +kernel)
theorem wlX4_step : Cond.selects RX4 yX4_step yX4_step ∈ T0 := inT0 367 (by decide +kernel) (by decide +kernel)
theorem wcX4_step : Cond.code yX4_step cX4_step 4 (some .int) ∈ T0 := inT0 368 (by decide +kernel) (by decide +kernel)
theorem wmX4_79 : Cond.methodLink RX4 79 yX3_makeSteps ∈ T0 := inT0 369 (by decide +kernel) (by decide +kernel)
theorem wiX3_makeSteps : Cond.instanceMethod yX3_makeSteps ∈ T0 := inT0 370 (by decide +kernel) (by decide +kernel)
theorem wlX3_makeSteps : Cond.selects RX3 yX3_makeSteps yX3_makeSteps ∈ T0 := inT0 371 (by decide +kernel) (by decide +kernel)
theorem wcX3_makeSteps : Cond.code yX3_makeSteps cX3_makeSteps 5 (some .int) ∈ T0 := inT0 372 (by decide +kernel) (by decide +kernel)
theorem wmX3_121 : Cond.methodLink RX3 121 yX0_listMovable ∈ T0 := inT0 373 (by decide +kernel) (by decide +kernel)
theorem wiX0_listMovable : Cond.instanceMethod yX0_listMovable ∈ T0 := inT0 374 (by decide +kernel) (by decide +kernel)
theorem wlX0_listMovable : Cond.selects RX0 yX0_listMovable yX0_listMovable ∈ T0 := inT0 375 (by decide +kernel) (by decide +kernel)
theorem wcX0_listMovable : Cond.code yX0_listMovable cX0_listMovable 4 (some .int) ∈ T0 := inT0 376 (by decide +kernel) (by decide +kernel)
theorem wmX3_125 : Cond.methodLink RX3 125 yX3_makeStep ∈ T0 := inT0 377 (by decide +kernel) (by decide +kernel)
theorem wiX3_makeStep : Cond.instanceMethod yX3_makeStep ∈ T0 := inT0 379 (by decide +kernel) (by decide +kernel)
theorem wcX3_makeStep : Cond.code yX3_makeStep cX3_makeStep 3 none ∈ T0 := inT0 380 (by decide +kernel) (by decide +kernel)
theorem wvX3_129 : Cond.constant RX3 129 (1103515245) ∈ T0 := inT0 381 (by decide +kernel) (by decide +kernel)
theorem wmX3_130 : Cond.methodLink RX3 130 yX3_latePlace ∈ T0 := inT0 382 (by decide +kernel) (by decide +kernel)
theorem wiX3_latePlace : Cond.instanceMethod yX3_latePlace ∈ T0 := inT0 383 (by decide +kernel) (by decide +kernel)
theorem wlX3_latePlace : Cond.selects RX3 yX3_latePlace yX3_latePlace ∈ T0 := inT0 384 (by decide +kernel) (by decide +kernel)
theorem wcX3_latePlace : Cond.code yX3_latePlace cX3_latePlace 1 (some .int) ∈ T0 := inT0 385 (by decide +kernel) (by decide +kernel)
theorem wmX3_62 : Cond.methodLink RX3 62 yJ9_floorMod_7cf53 ∈ T0 := inT0 386 (by decide +kernel) (by decide +kernel)
theorem wtJ9_floorMod_7cf53 : Cond.static yJ9_floorMod_7cf53 ∈ T0 := inT0 387 (by decide +kernel) (by decide +kernel)
theorem wcJ9_floorMod_7cf53 : Cond.code yJ9_floorMod_7cf53 cJ9_floorMod_7cf53 3 (some .int) ∈ T0 := inT0 388 (by decide +kernel) (by decide +kernel)
theorem wmX3_134 : Cond.methodLink RX3 134 yX3_tryPlan ∈ T0 := inT0 389 (by decide +kernel) (by decide +kernel)
theorem wiX3_tryPlan : Cond.instanceMethod yX3_tryPlan ∈ T0 := inT0 391 (by decide +kernel) (by decide +kernel)
theorem wcX3_tryPlan : Cond.code yX3_tryPlan cX3_tryPlan 11 none ∈ T0 := inT0 392 (by decide +kernel) (by decide +kernel)
theorem wmL_58 : Cond.methodLink RL 58 yX4_mark ∈ T0 := inT0 394 (by decide +kernel) (by decide +kernel)
theorem wiX4_mark : Cond.instanceMethod yX4_mark ∈ T0 := inT0 395 (by decide +kernel) (by decide +kernel)
theorem wlX4_mark : Cond.selects RX4 yX4_mark yX4_mark ∈ T0 := inT0 396 (by decide +kernel) (by decide +kernel)
theorem wcX4_mark : Cond.code yX4_mark cX4_mark 4 (some .int) ∈ T0 := inT0 397 (by decide +kernel) (by decide +kernel)
theorem wmX4_83 : Cond.methodLink RX4 83 yX4_isMark ∈ T0 := inT0 398 (by decide +kernel) (by decide +kernel)
theorem wtX4_isMark : Cond.static yX4_isMark ∈ T0 := inT0 399 (by decide +kernel) (by decide +kernel)
theorem wcX4_isMark : Cond.code yX4_isMark cX4_isMark 1 (some .boolean) ∈ T0 := inT0 400 (by decide +kernel) (by decide +kernel)
theorem wkX4_90 : Cond.classLink RX4 90 RX2 ∈ T0 := inT0 401 (by decide +kernel) (by decide +kernel)
theorem wjX2 : Cond.instantiable RX2 4 ∈ T0 := inT0 402 (by decide +kernel) (by decide +kernel)
theorem wmX4_96 : Cond.methodLink RX4 96 yX2_init ∈ T0 := inT0 403 (by decide +kernel) (by decide +kernel)
theorem wiX2_init : Cond.instanceMethod yX2_init ∈ T0 := inT0 404 (by decide +kernel) (by decide +kernel)
theorem wcX2_init : Cond.code yX2_init cX2_init 2 none ∈ T0 := inT0 405 (by decide +kernel) (by decide +kernel)
theorem wmX2_3 : Cond.methodLink RX2 3 objectInit ∈ T0 := inT0 406 (by decide +kernel) (by decide +kernel)
theorem wfX2_9 : Cond.fieldLink RX2 9 (TX2 0).1 (TX2 0).2.1 (TX2 0).2.2.1 ∈ T0 := inT0 407 (by decide +kernel) (by decide +kernel)
theorem wfX3_142 : Cond.fieldLink RX3 142 (TX2 0).1 (TX2 0).2.1 (TX2 0).2.2.1 ∈ T0 := inT0 408 (by decide +kernel) (by decide +kernel)
theorem wfX4_113 : Cond.fieldLink RX4 113 (TX2 0).1 (TX2 0).2.1 (TX2 0).2.2.1 ∈ T0 := inT0 409 (by decide +kernel) (by decide +kernel)
theorem wfX2_15 : Cond.fieldLink RX2 15 (TX2 1).1 (TX2 1).2.1 (TX2 1).2.2.1 ∈ T0 := inT0 410 (by decide +kernel) (by decide +kernel)
theorem wfX3_143 : Cond.fieldLink RX3 143 (TX2 1).1 (TX2 1).2.1 (TX2 1).2.2.1 ∈ T0 := inT0 411 (by decide +kernel) (by decide +kernel)
theorem wfX2_19 : Cond.fieldLink RX2 19 (TX2 2).1 (TX2 2).2.1 (TX2 2).2.2.1 ∈ T0 := inT0 412 (by decide +kernel) (by decide +kernel)
theorem wfX3_144 : Cond.fieldLink RX3 144 (TX2 2).1 (TX2 2).2.1 (TX2 2).2.2.1 ∈ T0 := inT0 413 (by decide +kernel) (by decide +kernel)
theorem wfX2_22 : Cond.fieldLink RX2 22 (TX2 3).1 (TX2 3).2.1 (TX2 3).2.2.1 ∈ T0 := inT0 414 (by decide +kernel) (by decide +kernel)
theorem wfX3_145 : Cond.fieldLink RX3 145 (TX2 3).1 (TX2 3).2.1 (TX2 3).2.2.1 ∈ T0 := inT0 415 (by decide +kernel) (by decide +kernel)
theorem wmX4_99 : Cond.methodLink RX4 99 yX3_keepIn ∈ T0 := inT0 425 (by decide +kernel) (by decide +kernel)
theorem wiX3_keepIn : Cond.instanceMethod yX3_keepIn ∈ T0 := inT0 426 (by decide +kernel) (by decide +kernel)
theorem wlX3_keepIn : Cond.selects RX3 yX3_keepIn yX3_keepIn ∈ T0 := inT0 427 (by decide +kernel) (by decide +kernel)
theorem wcX3_keepIn : Cond.code yX3_keepIn cX3_keepIn 2 none ∈ T0 := inT0 428 (by decide +kernel) (by decide +kernel)
theorem wmL_62 : Cond.methodLink RL 62 yX4_back ∈ T0 := inT0 429 (by decide +kernel) (by decide +kernel)
theorem wiX4_back : Cond.instanceMethod yX4_back ∈ T0 := inT0 430 (by decide +kernel) (by decide +kernel)
theorem wlX4_back : Cond.selects RX4 yX4_back yX4_back ∈ T0 := inT0 431 (by decide +kernel) (by decide +kernel)
theorem wcX4_back : Cond.code yX4_back cX4_back 5 (some .int) ∈ T0 := inT0 432 (by decide +kernel) (by decide +kernel)
theorem wmX4_109 : Cond.methodLink RX4 109 yX3_goBackTo ∈ T0 := inT0 433 (by decide +kernel) (by decide +kernel)
theorem wiX3_goBackTo : Cond.instanceMethod yX3_goBackTo ∈ T0 := inT0 434 (by decide +kernel) (by decide +kernel)
theorem wlX3_goBackTo : Cond.selects RX3 yX3_goBackTo yX3_goBackTo ∈ T0 := inT0 435 (by decide +kernel) (by decide +kernel)
theorem wcX3_goBackTo : Cond.code yX3_goBackTo cX3_goBackTo 4 none ∈ T0 := inT0 436 (by decide +kernel) (by decide +kernel)
theorem wmX3_146 : Cond.methodLink RX3 146 yX3_catchUp ∈ T0 := inT0 437 (by decide +kernel) (by decide +kernel)
theorem wmL_66 : Cond.methodLink RL 66 yX4_room ∈ T0 := inT0 438 (by decide +kernel) (by decide +kernel)
theorem wiX4_room : Cond.instanceMethod yX4_room ∈ T0 := inT0 439 (by decide +kernel) (by decide +kernel)
theorem wlX4_room : Cond.selects RX4 yX4_room yX4_room ∈ T0 := inT0 440 (by decide +kernel) (by decide +kernel)
theorem wcX4_room : Cond.code yX4_room cX4_room 5 (some .int) ∈ T0 := inT0 441 (by decide +kernel) (by decide +kernel)
theorem wmX4_114 : Cond.methodLink RX4 114 yX3_rooms ∈ T0 := inT0 442 (by decide +kernel) (by decide +kernel)
theorem wiX3_rooms : Cond.instanceMethod yX3_rooms ∈ T0 := inT0 443 (by decide +kernel) (by decide +kernel)
theorem wlX3_rooms : Cond.selects RX3 yX3_rooms yX3_rooms ∈ T0 := inT0 444 (by decide +kernel) (by decide +kernel)
theorem wcX3_rooms : Cond.code yX3_rooms cX3_rooms 2 (some (.array .int)) ∈ T0 := inT0 445 (by decide +kernel) (by decide +kernel)
theorem wmL_71 : Cond.methodLink RL 71 yX4_score ∈ T0 := inT0 446 (by decide +kernel) (by decide +kernel)
theorem wiX4_score : Cond.instanceMethod yX4_score ∈ T0 := inT0 447 (by decide +kernel) (by decide +kernel)
theorem wlX4_score : Cond.selects RX4 yX4_score yX4_score ∈ T0 := inT0 448 (by decide +kernel) (by decide +kernel)
theorem wcX4_score : Cond.code yX4_score cX4_score 5 (some .int) ∈ T0 := inT0 449 (by decide +kernel) (by decide +kernel)
theorem wmX4_125 : Cond.methodLink RX4 125 yX4_partOf ∈ T0 := inT0 450 (by decide +kernel) (by decide +kernel)
theorem wtX4_partOf : Cond.static yX4_partOf ∈ T0 := inT0 451 (by decide +kernel) (by decide +kernel)
theorem wcX4_partOf : Cond.code yX4_partOf cX4_partOf 3 (some .int) ∈ T0 := inT0 452 (by decide +kernel) (by decide +kernel)
theorem wmL_76 : Cond.methodLink RL 76 yX4_scoreBy ∈ T0 := inT0 453 (by decide +kernel) (by decide +kernel)
theorem wiX4_scoreBy : Cond.instanceMethod yX4_scoreBy ∈ T0 := inT0 454 (by decide +kernel) (by decide +kernel)
theorem wlX4_scoreBy : Cond.selects RX4 yX4_scoreBy yX4_scoreBy ∈ T0 := inT0 455 (by decide +kernel) (by decide +kernel)
theorem wcX4_scoreBy : Cond.code yX4_scoreBy cX4_scoreBy 6 (some .int) ∈ T0 := inT0 456 (by decide +kernel) (by decide +kernel)
theorem wmX4_133 : Cond.methodLink RX4 133 yX0_scoreOf ∈ T0 := inT0 457 (by decide +kernel) (by decide +kernel)
theorem wmL_81 : Cond.methodLink RL 81 yX4_same ∈ T0 := inT0 458 (by decide +kernel) (by decide +kernel)
theorem wiX4_same : Cond.instanceMethod yX4_same ∈ T0 := inT0 459 (by decide +kernel) (by decide +kernel)
theorem wlX4_same : Cond.selects RX4 yX4_same yX4_same ∈ T0 := inT0 460 (by decide +kernel) (by decide +kernel)
theorem wcX4_same : Cond.code yX4_same cX4_same 5 (some .int) ∈ T0 := inT0 461 (by decide +kernel) (by decide +kernel)
theorem wmX4_137 : Cond.methodLink RX4 137 yX3_isLike ∈ T0 := inT0 462 (by decide +kernel) (by decide +kernel)
theorem wiX3_isLike : Cond.instanceMethod yX3_isLike ∈ T0 := inT0 463 (by decide +kernel) (by decide +kernel)
theorem wlX3_isLike : Cond.selects RX3 yX3_isLike yX3_isLike ∈ T0 := inT0 464 (by decide +kernel) (by decide +kernel)
theorem wcX3_isLike : Cond.code yX3_isLike cX3_isLike 3 (some .boolean) ∈ T0 := inT0 465 (by decide +kernel) (by decide +kernel)
theorem wmL_85 : Cond.methodLink RL 85 yX4_told ∈ T0 := inT0 466 (by decide +kernel) (by decide +kernel)
theorem wiX4_told : Cond.instanceMethod yX4_told ∈ T0 := inT0 467 (by decide +kernel) (by decide +kernel)
theorem wlX4_told : Cond.selects RX4 yX4_told yX4_told ∈ T0 := inT0 468 (by decide +kernel) (by decide +kernel)
theorem wcX4_told : Cond.code yX4_told cX4_told 4 (some .int) ∈ T0 := inT0 469 (by decide +kernel) (by decide +kernel)
theorem wvX4_143 : Cond.constant RX4 143 (-2147483648) ∈ T0 := inT0 470 (by decide +kernel) (by decide +kernel)
theorem wmX4_156 : Cond.methodLink RX4 156 yX3_latePlace ∈ T0 := inT0 471 (by decide +kernel) (by decide +kernel)
theorem wmL_89 : Cond.methodLink RL 89 yX4_fact ∈ T0 := inT0 472 (by decide +kernel) (by decide +kernel)
theorem wiX4_fact : Cond.instanceMethod yX4_fact ∈ T0 := inT0 473 (by decide +kernel) (by decide +kernel)
theorem wlX4_fact : Cond.selects RX4 yX4_fact yX4_fact ∈ T0 := inT0 474 (by decide +kernel) (by decide +kernel)
theorem wcX4_fact : Cond.code yX4_fact cX4_fact 4 (some .int) ∈ T0 := inT0 475 (by decide +kernel) (by decide +kernel)
theorem wmX4_160 : Cond.methodLink RX4 160 yX4_countOf ∈ T0 := inT0 476 (by decide +kernel) (by decide +kernel)
theorem wiX4_countOf : Cond.instanceMethod yX4_countOf ∈ T0 := inT0 478 (by decide +kernel) (by decide +kernel)
theorem wcX4_countOf : Cond.code yX4_countOf cX4_countOf 2 (some .int) ∈ T0 := inT0 479 (by decide +kernel) (by decide +kernel)
theorem wmX4_177 : Cond.methodLink RX4 177 yX0_countThere ∈ T0 := inT0 480 (by decide +kernel) (by decide +kernel)
theorem wiX0_countThere : Cond.instanceMethod yX0_countThere ∈ T0 := inT0 481 (by decide +kernel) (by decide +kernel)
theorem wlX0_countThere : Cond.selects RX0 yX0_countThere yX0_countThere ∈ T0 := inT0 482 (by decide +kernel) (by decide +kernel)
theorem wcX0_countThere : Cond.code yX0_countThere cX0_countThere 3 (some .int) ∈ T0 := inT0 483 (by decide +kernel) (by decide +kernel)
theorem wmX4_166 : Cond.methodLink RX4 166 yX4_traitOf ∈ T0 := inT0 484 (by decide +kernel) (by decide +kernel)
theorem wiX4_traitOf : Cond.instanceMethod yX4_traitOf ∈ T0 := inT0 486 (by decide +kernel) (by decide +kernel)
theorem wcX4_traitOf : Cond.code yX4_traitOf cX4_traitOf 3 (some .int) ∈ T0 := inT0 487 (by decide +kernel) (by decide +kernel)
theorem wmL_93 : Cond.methodLink RL 93 yX4_change ∈ T0 := inT0 488 (by decide +kernel) (by decide +kernel)
theorem wiX4_change : Cond.instanceMethod yX4_change ∈ T0 := inT0 489 (by decide +kernel) (by decide +kernel)
theorem wlX4_change : Cond.selects RX4 yX4_change yX4_change ∈ T0 := inT0 490 (by decide +kernel) (by decide +kernel)
theorem wcX4_change : Cond.code yX4_change cX4_change 2 (some .int) ∈ T0 := inT0 491 (by decide +kernel) (by decide +kernel)
theorem wkL_10 : Cond.classLink RL 10 RX5 ∈ T0 := inT0 492 (by decide +kernel) (by decide +kernel)
theorem wjX5 : Cond.instantiable RX5 30 ∈ T0 := inT0 493 (by decide +kernel) (by decide +kernel)
theorem wmL_12 : Cond.methodLink RL 12 yX5_init ∈ T0 := inT0 494 (by decide +kernel) (by decide +kernel)
theorem wiX5_init : Cond.instanceMethod yX5_init ∈ T0 := inT0 495 (by decide +kernel) (by decide +kernel)
theorem wcX5_init : Cond.code yX5_init cX5_init 1 none ∈ T0 := inT0 496 (by decide +kernel) (by decide +kernel)
theorem wmX5_1 : Cond.methodLink RX5 1 objectInit ∈ T0 := inT0 497 (by decide +kernel) (by decide +kernel)
theorem wmX5_86 : Cond.methodLink RX5 86 yX5_forget ∈ T0 := inT0 498 (by decide +kernel) (by decide +kernel)
theorem wiX5_forget : Cond.instanceMethod yX5_forget ∈ T0 := inT0 500 (by decide +kernel) (by decide +kernel)
theorem wcX5_forget : Cond.code yX5_forget cX5_forget 3 none ∈ T0 := inT0 501 (by decide +kernel) (by decide +kernel)
theorem wfX5_97 : Cond.fieldLink RX5 97 (TX5 0).1 (TX5 0).2.1 (TX5 0).2.2.1 ∈ T0 := inT0 502 (by decide +kernel) (by decide +kernel)
theorem wfX5_7 : Cond.fieldLink RX5 7 (TX5 1).1 (TX5 1).2.1 (TX5 1).2.2.1 ∈ T0 := inT0 503 (by decide +kernel) (by decide +kernel)
theorem wfX5_13 : Cond.fieldLink RX5 13 (TX5 2).1 (TX5 2).2.1 (TX5 2).2.2.1 ∈ T0 := inT0 504 (by decide +kernel) (by decide +kernel)
theorem wfX5_16 : Cond.fieldLink RX5 16 (TX5 3).1 (TX5 3).2.1 (TX5 3).2.2.1 ∈ T0 := inT0 505 (by decide +kernel) (by decide +kernel)
theorem wfX5_19 : Cond.fieldLink RX5 19 (TX5 4).1 (TX5 4).2.1 (TX5 4).2.2.1 ∈ T0 := inT0 506 (by decide +kernel) (by decide +kernel)
theorem wfX5_22 : Cond.fieldLink RX5 22 (TX5 5).1 (TX5 5).2.1 (TX5 5).2.2.1 ∈ T0 := inT0 507 (by decide +kernel) (by decide +kernel)
theorem wfX5_25 : Cond.fieldLink RX5 25 (TX5 6).1 (TX5 6).2.1 (TX5 6).2.2.1 ∈ T0 := inT0 508 (by decide +kernel) (by decide +kernel)
theorem wfX5_29 : Cond.fieldLink RX5 29 (TX5 7).1 (TX5 7).2.1 (TX5 7).2.2.1 ∈ T0 := inT0 509 (by decide +kernel) (by decide +kernel)
theorem wfX5_32 : Cond.fieldLink RX5 32 (TX5 8).1 (TX5 8).2.1 (TX5 8).2.2.1 ∈ T0 := inT0 510 (by decide +kernel) (by decide +kernel)
theorem wfX5_35 : Cond.fieldLink RX5 35 (TX5 9).1 (TX5 9).2.1 (TX5 9).2.2.1 ∈ T0 := inT0 511 (by decide +kernel) (by decide +kernel)
theorem wfX5_38 : Cond.fieldLink RX5 38 (TX5 10).1 (TX5 10).2.1 (TX5 10).2.2.1 ∈ T0 := inT0 512 (by decide +kernel) (by decide +kernel)
theorem wfX5_41 : Cond.fieldLink RX5 41 (TX5 11).1 (TX5 11).2.1 (TX5 11).2.2.1 ∈ T0 := inT0 513 (by decide +kernel) (by decide +kernel)
theorem wfX5_44 : Cond.fieldLink RX5 44 (TX5 12).1 (TX5 12).2.1 (TX5 12).2.2.1 ∈ T0 := inT0 514 (by decide +kernel) (by decide +kernel)
theorem wfX5_108 : Cond.fieldLink RX5 108 (TX5 13).1 (TX5 13).2.1 (TX5 13).2.2.1 ∈ T0 := inT0 515 (by decide +kernel) (by decide +kernel)
theorem wfX5_47 : Cond.fieldLink RX5 47 (TX5 14).1 (TX5 14).2.1 (TX5 14).2.2.1 ∈ T0 := inT0 516 (by decide +kernel) (by decide +kernel)
theorem wfX5_119 : Cond.fieldLink RX5 119 (TX5 15).1 (TX5 15).2.1 (TX5 15).2.2.1 ∈ T0 := inT0 517 (by decide +kernel) (by decide +kernel)
theorem wfX5_122 : Cond.fieldLink RX5 122 (TX5 16).1 (TX5 16).2.1 (TX5 16).2.2.1 ∈ T0 := inT0 518 (by decide +kernel) (by decide +kernel)
theorem wfX5_129 : Cond.fieldLink RX5 129 (TX5 17).1 (TX5 17).2.1 (TX5 17).2.2.1 ∈ T0 := inT0 519 (by decide +kernel) (by decide +kernel)
theorem wfX5_50 : Cond.fieldLink RX5 50 (TX5 18).1 (TX5 18).2.1 (TX5 18).2.2.1 ∈ T0 := inT0 520 (by decide +kernel) (by decide +kernel)
theorem wfX5_53 : Cond.fieldLink RX5 53 (TX5 19).1 (TX5 19).2.1 (TX5 19).2.2.1 ∈ T0 := inT0 521 (by decide +kernel) (by decide +kernel)
theorem wfX5_56 : Cond.fieldLink RX5 56 (TX5 20).1 (TX5 20).2.1 (TX5 20).2.2.1 ∈ T0 := inT0 522 (by decide +kernel) (by decide +kernel)
theorem wfX5_59 : Cond.fieldLink RX5 59 (TX5 21).1 (TX5 21).2.1 (TX5 21).2.2.1 ∈ T0 := inT0 523 (by decide +kernel) (by decide +kernel)
theorem wfX5_62 : Cond.fieldLink RX5 62 (TX5 22).1 (TX5 22).2.1 (TX5 22).2.2.1 ∈ T0 := inT0 524 (by decide +kernel) (by decide +kernel)
theorem wfX5_65 : Cond.fieldLink RX5 65 (TX5 23).1 (TX5 23).2.1 (TX5 23).2.2.1 ∈ T0 := inT0 525 (by decide +kernel) (by decide +kernel)
theorem wfX5_68 : Cond.fieldLink RX5 68 (TX5 24).1 (TX5 24).2.1 (TX5 24).2.2.1 ∈ T0 := inT0 526 (by decide +kernel) (by decide +kernel)
theorem wfX5_71 : Cond.fieldLink RX5 71 (TX5 25).1 (TX5 25).2.1 (TX5 25).2.2.1 ∈ T0 := inT0 527 (by decide +kernel) (by decide +kernel)
theorem wfX5_74 : Cond.fieldLink RX5 74 (TX5 26).1 (TX5 26).2.1 (TX5 26).2.2.1 ∈ T0 := inT0 528 (by decide +kernel) (by decide +kernel)
theorem wfX5_77 : Cond.fieldLink RX5 77 (TX5 27).1 (TX5 27).2.1 (TX5 27).2.2.1 ∈ T0 := inT0 529 (by decide +kernel) (by decide +kernel)
theorem wfX5_80 : Cond.fieldLink RX5 80 (TX5 28).1 (TX5 28).2.1 (TX5 28).2.2.1 ∈ T0 := inT0 530 (by decide +kernel) (by decide +kernel)
theorem wfX5_83 : Cond.fieldLink RX5 83 (TX5 29).1 (TX5 29).2.1 (TX5 29).2.2.1 ∈ T0 := inT0 531 (by decide +kernel) (by decide +kernel)
theorem wmL_17 : Cond.methodLink RL 17 yX5_come ∈ T0 := inT0 593 (by decide +kernel) (by decide +kernel)
theorem wiX5_come : Cond.instanceMethod yX5_come ∈ T0 := inT0 594 (by decide +kernel) (by decide +kernel)
theorem wlX5_come : Cond.selects RX5 yX5_come yX5_come ∈ T0 := inT0 595 (by decide +kernel) (by decide +kernel)
theorem wcX5_come : Cond.code yX5_come cX5_come 5 (some .int) ∈ T0 := inT0 596 (by decide +kernel) (by decide +kernel)
theorem wmX5_105 : Cond.methodLink RX5 105 yX5_isTold ∈ T0 := inT0 597 (by decide +kernel) (by decide +kernel)
theorem wtX5_isTold : Cond.static yX5_isTold ∈ T0 := inT0 598 (by decide +kernel) (by decide +kernel)
theorem wcX5_isTold : Cond.code yX5_isTold cX5_isTold 3 (some .boolean) ∈ T0 := inT0 599 (by decide +kernel) (by decide +kernel)
theorem wmX5_101 : Cond.methodLink RX5 101 yX5_in ∈ T0 := inT0 600 (by decide +kernel) (by decide +kernel)
theorem wtX5_in : Cond.static yX5_in ∈ T0 := inT0 601 (by decide +kernel) (by decide +kernel)
theorem wcX5_in : Cond.code yX5_in cX5_in 3 (some .boolean) ∈ T0 := inT0 602 (by decide +kernel) (by decide +kernel)
theorem wmX5_111 : Cond.methodLink RX5 111 yX5_add ∈ T0 := inT0 603 (by decide +kernel) (by decide +kernel)
theorem wiX5_add : Cond.instanceMethod yX5_add ∈ T0 := inT0 605 (by decide +kernel) (by decide +kernel)
theorem wcX5_add : Cond.code yX5_add cX5_add 6 (some .int) ∈ T0 := inT0 606 (by decide +kernel) (by decide +kernel)
theorem wmX5_94 : Cond.methodLink RX5 94 yX5_apply ∈ T0 := inT0 607 (by decide +kernel) (by decide +kernel)
theorem wiX5_apply : Cond.instanceMethod yX5_apply ∈ T0 := inT0 609 (by decide +kernel) (by decide +kernel)
theorem wcX5_apply : Cond.code yX5_apply cX5_apply 5 none ∈ T0 := inT0 610 (by decide +kernel) (by decide +kernel)
theorem wmX5_90 : Cond.methodLink RX5 90 yX5_tell ∈ T0 := inT0 611 (by decide +kernel) (by decide +kernel)
theorem wiX5_tell : Cond.instanceMethod yX5_tell ∈ T0 := inT0 613 (by decide +kernel) (by decide +kernel)
theorem wcX5_tell : Cond.code yX5_tell cX5_tell 3 none ∈ T0 := inT0 614 (by decide +kernel) (by decide +kernel)
theorem wmL_22 : Cond.methodLink RL 22 yX5_go ∈ T0 := inT0 615 (by decide +kernel) (by decide +kernel)
theorem wiX5_go : Cond.instanceMethod yX5_go ∈ T0 := inT0 616 (by decide +kernel) (by decide +kernel)
theorem wlX5_go : Cond.selects RX5 yX5_go yX5_go ∈ T0 := inT0 617 (by decide +kernel) (by decide +kernel)
theorem wcX5_go : Cond.code yX5_go cX5_go 2 (some .int) ∈ T0 := inT0 618 (by decide +kernel) (by decide +kernel)
theorem wmX5_115 : Cond.methodLink RX5 115 yX5_isJob ∈ T0 := inT0 619 (by decide +kernel) (by decide +kernel)
theorem wiX5_isJob : Cond.instanceMethod yX5_isJob ∈ T0 := inT0 621 (by decide +kernel) (by decide +kernel)
theorem wcX5_isJob : Cond.code yX5_isJob cX5_isJob 2 (some .boolean) ∈ T0 := inT0 622 (by decide +kernel) (by decide +kernel)
theorem wmL_27 : Cond.methodLink RL 27 yX5_turn ∈ T0 := inT0 623 (by decide +kernel) (by decide +kernel)
theorem wiX5_turn : Cond.instanceMethod yX5_turn ∈ T0 := inT0 624 (by decide +kernel) (by decide +kernel)
theorem wlX5_turn : Cond.selects RX5 yX5_turn yX5_turn ∈ T0 := inT0 625 (by decide +kernel) (by decide +kernel)
theorem wcX5_turn : Cond.code yX5_turn cX5_turn 5 (some .int) ∈ T0 := inT0 626 (by decide +kernel) (by decide +kernel)
theorem wmL_32 : Cond.methodLink RL 32 yX5_size ∈ T0 := inT0 627 (by decide +kernel) (by decide +kernel)
theorem wiX5_size : Cond.instanceMethod yX5_size ∈ T0 := inT0 628 (by decide +kernel) (by decide +kernel)
theorem wlX5_size : Cond.selects RX5 yX5_size yX5_size ∈ T0 := inT0 629 (by decide +kernel) (by decide +kernel)
theorem wcX5_size : Cond.code yX5_size cX5_size 3 (some .int) ∈ T0 := inT0 630 (by decide +kernel) (by decide +kernel)
theorem wmL_37 : Cond.methodLink RL 37 yX5_apart ∈ T0 := inT0 631 (by decide +kernel) (by decide +kernel)
theorem wiX5_apart : Cond.instanceMethod yX5_apart ∈ T0 := inT0 632 (by decide +kernel) (by decide +kernel)
theorem wlX5_apart : Cond.selects RX5 yX5_apart yX5_apart ∈ T0 := inT0 633 (by decide +kernel) (by decide +kernel)
theorem wcX5_apart : Cond.code yX5_apart cX5_apart 5 (some .int) ∈ T0 := inT0 634 (by decide +kernel) (by decide +kernel)
theorem wmL_41 : Cond.methodLink RL 41 yX5_lock ∈ T0 := inT0 635 (by decide +kernel) (by decide +kernel)
theorem wiX5_lock : Cond.instanceMethod yX5_lock ∈ T0 := inT0 636 (by decide +kernel) (by decide +kernel)
theorem wlX5_lock : Cond.selects RX5 yX5_lock yX5_lock ∈ T0 := inT0 637 (by decide +kernel) (by decide +kernel)
theorem wcX5_lock : Cond.code yX5_lock cX5_lock 3 (some .int) ∈ T0 := inT0 638 (by decide +kernel) (by decide +kernel)
theorem wmL_45 : Cond.methodLink RL 45 yX5_free ∈ T0 := inT0 639 (by decide +kernel) (by decide +kernel)
theorem wiX5_free : Cond.instanceMethod yX5_free ∈ T0 := inT0 640 (by decide +kernel) (by decide +kernel)
theorem wlX5_free : Cond.selects RX5 yX5_free yX5_free ∈ T0 := inT0 641 (by decide +kernel) (by decide +kernel)
theorem wcX5_free : Cond.code yX5_free cX5_free 2 (some .int) ∈ T0 := inT0 642 (by decide +kernel) (by decide +kernel)
theorem wmL_49 : Cond.methodLink RL 49 yX5_solve ∈ T0 := inT0 643 (by decide +kernel) (by decide +kernel)
theorem wiX5_solve : Cond.instanceMethod yX5_solve ∈ T0 := inT0 644 (by decide +kernel) (by decide +kernel)
theorem wlX5_solve : Cond.selects RX5 yX5_solve yX5_solve ∈ T0 := inT0 645 (by decide +kernel) (by decide +kernel)
theorem wcX5_solve : Cond.code yX5_solve cX5_solve 5 (some .int) ∈ T0 := inT0 646 (by decide +kernel) (by decide +kernel)
theorem wmX5_132 : Cond.methodLink RX5 132 yX5_fillLate ∈ T0 := inT0 647 (by decide +kernel) (by decide +kernel)
theorem wiX5_fillLate : Cond.instanceMethod yX5_fillLate ∈ T0 := inT0 649 (by decide +kernel) (by decide +kernel)
theorem wcX5_fillLate : Cond.code yX5_fillLate cX5_fillLate 3 none ∈ T0 := inT0 650 (by decide +kernel) (by decide +kernel)
theorem wmX5_135 : Cond.methodLink RX5 135 yX5_judge ∈ T0 := inT0 651 (by decide +kernel) (by decide +kernel)
theorem wiX5_judge : Cond.instanceMethod yX5_judge ∈ T0 := inT0 653 (by decide +kernel) (by decide +kernel)
theorem wcX5_judge : Cond.code yX5_judge cX5_judge 9 none ∈ T0 := inT0 654 (by decide +kernel) (by decide +kernel)
theorem wmX5_125 : Cond.methodLink RX5 125 yX5_roomOf ∈ T0 := inT0 655 (by decide +kernel) (by decide +kernel)
theorem wiX5_roomOf : Cond.instanceMethod yX5_roomOf ∈ T0 := inT0 657 (by decide +kernel) (by decide +kernel)
theorem wcX5_roomOf : Cond.code yX5_roomOf cX5_roomOf 4 (some .int) ∈ T0 := inT0 658 (by decide +kernel) (by decide +kernel)
theorem wmL_53 : Cond.methodLink RL 53 yX5_take ∈ T0 := inT0 659 (by decide +kernel) (by decide +kernel)
theorem wiX5_take : Cond.instanceMethod yX5_take ∈ T0 := inT0 660 (by decide +kernel) (by decide +kernel)
theorem wlX5_take : Cond.selects RX5 yX5_take yX5_take ∈ T0 := inT0 661 (by decide +kernel) (by decide +kernel)
theorem wcX5_take : Cond.code yX5_take cX5_take 3 (some .int) ∈ T0 := inT0 662 (by decide +kernel) (by decide +kernel)
theorem wmX5_149 : Cond.methodLink RX5 149 yX5_isSolve ∈ T0 := inT0 663 (by decide +kernel) (by decide +kernel)
theorem wiX5_isSolve : Cond.instanceMethod yX5_isSolve ∈ T0 := inT0 665 (by decide +kernel) (by decide +kernel)
theorem wcX5_isSolve : Cond.code yX5_isSolve cX5_isSolve 2 (some .boolean) ∈ T0 := inT0 666 (by decide +kernel) (by decide +kernel)
theorem wmX5_152 : Cond.methodLink RX5 152 yX5_catchUp ∈ T0 := inT0 667 (by decide +kernel) (by decide +kernel)
theorem wiX5_catchUp : Cond.instanceMethod yX5_catchUp ∈ T0 := inT0 669 (by decide +kernel) (by decide +kernel)
theorem wcX5_catchUp : Cond.code yX5_catchUp cX5_catchUp 7 (some .int) ∈ T0 := inT0 670 (by decide +kernel) (by decide +kernel)
theorem wmX5_146 : Cond.methodLink RX5 146 yX5_keepBest ∈ T0 := inT0 671 (by decide +kernel) (by decide +kernel)
theorem wiX5_keepBest : Cond.instanceMethod yX5_keepBest ∈ T0 := inT0 673 (by decide +kernel) (by decide +kernel)
theorem wcX5_keepBest : Cond.code yX5_keepBest cX5_keepBest 4 none ∈ T0 := inT0 674 (by decide +kernel) (by decide +kernel)
theorem wmX5_139 : Cond.methodLink RX5 139 yX5_isBetter ∈ T0 := inT0 675 (by decide +kernel) (by decide +kernel)
theorem wtX5_isBetter : Cond.static yX5_isBetter ∈ T0 := inT0 676 (by decide +kernel) (by decide +kernel)
theorem wcX5_isBetter : Cond.code yX5_isBetter cX5_isBetter 4 (some .boolean) ∈ T0 := inT0 677 (by decide +kernel) (by decide +kernel)
theorem wmX5_143 : Cond.methodLink RX5 143 yX5_copyPlan ∈ T0 := inT0 678 (by decide +kernel) (by decide +kernel)
theorem wiX5_copyPlan : Cond.instanceMethod yX5_copyPlan ∈ T0 := inT0 680 (by decide +kernel) (by decide +kernel)
theorem wcX5_copyPlan : Cond.code yX5_copyPlan cX5_copyPlan 4 none ∈ T0 := inT0 681 (by decide +kernel) (by decide +kernel)
theorem wmL_57 : Cond.methodLink RL 57 yX5_step ∈ T0 := inT0 682 (by decide +kernel) (by decide +kernel)
theorem wiX5_step : Cond.instanceMethod yX5_step ∈ T0 := inT0 683 (by decide +kernel) (by decide +kernel)
theorem wlX5_step : Cond.selects RX5 yX5_step yX5_step ∈ T0 := inT0 684 (by decide +kernel) (by decide +kernel)
theorem wcX5_step : Cond.code yX5_step cX5_step 7 (some .int) ∈ T0 := inT0 685 (by decide +kernel) (by decide +kernel)
theorem wvX5_163 : Cond.constant RX5 163 (1103515245) ∈ T0 := inT0 686 (by decide +kernel) (by decide +kernel)
theorem wmX5_164 : Cond.methodLink RX5 164 yX5_attempt ∈ T0 := inT0 687 (by decide +kernel) (by decide +kernel)
theorem wiX5_attempt : Cond.instanceMethod yX5_attempt ∈ T0 := inT0 689 (by decide +kernel) (by decide +kernel)
theorem wcX5_attempt : Cond.code yX5_attempt cX5_attempt 8 none ∈ T0 := inT0 690 (by decide +kernel) (by decide +kernel)
theorem wmX5_156 : Cond.methodLink RX5 156 yX5_isFree ∈ T0 := inT0 691 (by decide +kernel) (by decide +kernel)
theorem wiX5_isFree : Cond.instanceMethod yX5_isFree ∈ T0 := inT0 693 (by decide +kernel) (by decide +kernel)
theorem wcX5_isFree : Cond.code yX5_isFree cX5_isFree 3 (some .boolean) ∈ T0 := inT0 694 (by decide +kernel) (by decide +kernel)
theorem wmX5_160 : Cond.methodLink RX5 160 yX5_nth ∈ T0 := inT0 695 (by decide +kernel) (by decide +kernel)
theorem wiX5_nth : Cond.instanceMethod yX5_nth ∈ T0 := inT0 697 (by decide +kernel) (by decide +kernel)
theorem wcX5_nth : Cond.code yX5_nth cX5_nth 5 (some .int) ∈ T0 := inT0 698 (by decide +kernel) (by decide +kernel)
theorem wmL_61 : Cond.methodLink RL 61 yX5_mark ∈ T0 := inT0 699 (by decide +kernel) (by decide +kernel)
theorem wiX5_mark : Cond.instanceMethod yX5_mark ∈ T0 := inT0 700 (by decide +kernel) (by decide +kernel)
theorem wlX5_mark : Cond.selects RX5 yX5_mark yX5_mark ∈ T0 := inT0 701 (by decide +kernel) (by decide +kernel)
theorem wcX5_mark : Cond.code yX5_mark cX5_mark 5 (some .int) ∈ T0 := inT0 702 (by decide +kernel) (by decide +kernel)
theorem wmL_65 : Cond.methodLink RL 65 yX5_back ∈ T0 := inT0 703 (by decide +kernel) (by decide +kernel)
theorem wiX5_back : Cond.instanceMethod yX5_back ∈ T0 := inT0 704 (by decide +kernel) (by decide +kernel)
theorem wlX5_back : Cond.selects RX5 yX5_back yX5_back ∈ T0 := inT0 705 (by decide +kernel) (by decide +kernel)
theorem wcX5_back : Cond.code yX5_back cX5_back 6 (some .int) ∈ T0 := inT0 706 (by decide +kernel) (by decide +kernel)
theorem wmX5_167 : Cond.methodLink RX5 167 yX5_makeFacts ∈ T0 := inT0 707 (by decide +kernel) (by decide +kernel)
theorem wiX5_makeFacts : Cond.instanceMethod yX5_makeFacts ∈ T0 := inT0 709 (by decide +kernel) (by decide +kernel)
theorem wcX5_makeFacts : Cond.code yX5_makeFacts cX5_makeFacts 4 none ∈ T0 := inT0 710 (by decide +kernel) (by decide +kernel)
theorem wmL_70 : Cond.methodLink RL 70 yX5_room ∈ T0 := inT0 711 (by decide +kernel) (by decide +kernel)
theorem wiX5_room : Cond.instanceMethod yX5_room ∈ T0 := inT0 712 (by decide +kernel) (by decide +kernel)
theorem wlX5_room : Cond.selects RX5 yX5_room yX5_room ∈ T0 := inT0 713 (by decide +kernel) (by decide +kernel)
theorem wcX5_room : Cond.code yX5_room cX5_room 4 (some .int) ∈ T0 := inT0 714 (by decide +kernel) (by decide +kernel)
theorem wmL_75 : Cond.methodLink RL 75 yX5_score ∈ T0 := inT0 715 (by decide +kernel) (by decide +kernel)
theorem wiX5_score : Cond.instanceMethod yX5_score ∈ T0 := inT0 716 (by decide +kernel) (by decide +kernel)
theorem wlX5_score : Cond.selects RX5 yX5_score yX5_score ∈ T0 := inT0 717 (by decide +kernel) (by decide +kernel)
theorem wcX5_score : Cond.code yX5_score cX5_score 4 (some .int) ∈ T0 := inT0 718 (by decide +kernel) (by decide +kernel)
theorem wmL_80 : Cond.methodLink RL 80 yX5_scoreBy ∈ T0 := inT0 719 (by decide +kernel) (by decide +kernel)
theorem wiX5_scoreBy : Cond.instanceMethod yX5_scoreBy ∈ T0 := inT0 720 (by decide +kernel) (by decide +kernel)
theorem wlX5_scoreBy : Cond.selects RX5 yX5_scoreBy yX5_scoreBy ∈ T0 := inT0 721 (by decide +kernel) (by decide +kernel)
theorem wcX5_scoreBy : Cond.code yX5_scoreBy cX5_scoreBy 5 (some .int) ∈ T0 := inT0 722 (by decide +kernel) (by decide +kernel)
theorem wmL_84 : Cond.methodLink RL 84 yX5_same ∈ T0 := inT0 723 (by decide +kernel) (by decide +kernel)
theorem wiX5_same : Cond.instanceMethod yX5_same ∈ T0 := inT0 724 (by decide +kernel) (by decide +kernel)
theorem wlX5_same : Cond.selects RX5 yX5_same yX5_same ∈ T0 := inT0 725 (by decide +kernel) (by decide +kernel)
theorem wcX5_same : Cond.code yX5_same cX5_same 5 (some .int) ∈ T0 := inT0 726 (by decide +kernel) (by decide +kernel)
theorem wmL_88 : Cond.methodLink RL 88 yX5_told ∈ T0 := inT0 727 (by decide +kernel) (by decide +kernel)
theorem wiX5_told : Cond.instanceMethod yX5_told ∈ T0 := inT0 728 (by decide +kernel) (by decide +kernel)
theorem wlX5_told : Cond.selects RX5 yX5_told yX5_told ∈ T0 := inT0 729 (by decide +kernel) (by decide +kernel)
theorem wcX5_told : Cond.code yX5_told cX5_told 4 (some .int) ∈ T0 := inT0 730 (by decide +kernel) (by decide +kernel)
theorem wvX5_170 : Cond.constant RX5 170 (-2147483648) ∈ T0 := inT0 731 (by decide +kernel) (by decide +kernel)
theorem wmL_92 : Cond.methodLink RL 92 yX5_fact ∈ T0 := inT0 732 (by decide +kernel) (by decide +kernel)
theorem wiX5_fact : Cond.instanceMethod yX5_fact ∈ T0 := inT0 733 (by decide +kernel) (by decide +kernel)
theorem wlX5_fact : Cond.selects RX5 yX5_fact yX5_fact ∈ T0 := inT0 734 (by decide +kernel) (by decide +kernel)
theorem wcX5_fact : Cond.code yX5_fact cX5_fact 4 (some .int) ∈ T0 := inT0 735 (by decide +kernel) (by decide +kernel)
theorem wmX5_171 : Cond.methodLink RX5 171 yX5_ofAll ∈ T0 := inT0 736 (by decide +kernel) (by decide +kernel)
theorem wiX5_ofAll : Cond.instanceMethod yX5_ofAll ∈ T0 := inT0 738 (by decide +kernel) (by decide +kernel)
theorem wcX5_ofAll : Cond.code yX5_ofAll cX5_ofAll 4 (some .int) ∈ T0 := inT0 739 (by decide +kernel) (by decide +kernel)
theorem wmL_96 : Cond.methodLink RL 96 yX5_change ∈ T0 := inT0 740 (by decide +kernel) (by decide +kernel)
theorem wiX5_change : Cond.instanceMethod yX5_change ∈ T0 := inT0 741 (by decide +kernel) (by decide +kernel)
theorem wlX5_change : Cond.selects RX5 yX5_change yX5_change ∈ T0 := inT0 742 (by decide +kernel) (by decide +kernel)
theorem wcX5_change : Cond.code yX5_change cX5_change 2 (some .int) ∈ T0 := inT0 743 (by decide +kernel) (by decide +kernel)
theorem wlX0_clear : Cond.selects RX0 yX0_clear yX0_clear ∈ T0 := inT0 0 (by decide +kernel) (by decide +kernel)
theorem wlX4_enter : Cond.selects RX4 yX4_enter yX4_enter ∈ T0 := inT0 1 (by decide +kernel) (by decide +kernel)
theorem wlX0_learn : Cond.selects RX0 yX0_learn yX0_learn ∈ T0 := inT0 2 (by decide +kernel) (by decide +kernel)
theorem wlX0_learnOfJob : Cond.selects RX0 yX0_learnOfJob yX0_learnOfJob ∈ T0 := inT0 3 (by decide +kernel) (by decide +kernel)
theorem wlX0_setTraits : Cond.selects RX0 yX0_setTraits yX0_setTraits ∈ T0 := inT0 4 (by decide +kernel) (by decide +kernel)
theorem wlX0_leave : Cond.selects RX0 yX0_leave yX0_leave ∈ T0 := inT0 5 (by decide +kernel) (by decide +kernel)
theorem wlX0_setApart : Cond.selects RX0 yX0_setApart yX0_setApart ∈ T0 := inT0 6 (by decide +kernel) (by decide +kernel)
theorem wlX4_solveOf : Cond.selects RX4 yX4_solveOf yX4_solveOf ∈ T0 := inT0 7 (by decide +kernel) (by decide +kernel)
theorem wlX3_followChange : Cond.selects RX3 yX3_followChange yX3_followChange ∈ T0 := inT0 8 (by decide +kernel) (by decide +kernel)
theorem wlX3_putInBoth : Cond.selects RX3 yX3_putInBoth yX3_putInBoth ∈ T0 := inT0 9 (by decide +kernel) (by decide +kernel)
theorem wlX3_scoreAnew : Cond.selects RX3 yX3_scoreAnew yX3_scoreAnew ∈ T0 := inT0 10 (by decide +kernel) (by decide +kernel)
theorem wlX3_keepIfBest : Cond.selects RX3 yX3_keepIfBest yX3_keepIfBest ∈ T0 := inT0 11 (by decide +kernel) (by decide +kernel)
theorem wlX3_makeStep : Cond.selects RX3 yX3_makeStep yX3_makeStep ∈ T0 := inT0 12 (by decide +kernel) (by decide +kernel)
theorem wlX3_tryPlan : Cond.selects RX3 yX3_tryPlan yX3_tryPlan ∈ T0 := inT0 13 (by decide +kernel) (by decide +kernel)
theorem wlX4_countOf : Cond.selects RX4 yX4_countOf yX4_countOf ∈ T0 := inT0 14 (by decide +kernel) (by decide +kernel)
theorem wlX4_traitOf : Cond.selects RX4 yX4_traitOf yX4_traitOf ∈ T0 := inT0 15 (by decide +kernel) (by decide +kernel)
theorem wlX5_forget : Cond.selects RX5 yX5_forget yX5_forget ∈ T0 := inT0 16 (by decide +kernel) (by decide +kernel)
theorem wlX5_add : Cond.selects RX5 yX5_add yX5_add ∈ T0 := inT0 17 (by decide +kernel) (by decide +kernel)
theorem wlX5_apply : Cond.selects RX5 yX5_apply yX5_apply ∈ T0 := inT0 18 (by decide +kernel) (by decide +kernel)
theorem wlX5_tell : Cond.selects RX5 yX5_tell yX5_tell ∈ T0 := inT0 19 (by decide +kernel) (by decide +kernel)
theorem wlX5_isJob : Cond.selects RX5 yX5_isJob yX5_isJob ∈ T0 := inT0 20 (by decide +kernel) (by decide +kernel)
theorem wlX5_fillLate : Cond.selects RX5 yX5_fillLate yX5_fillLate ∈ T0 := inT0 21 (by decide +kernel) (by decide +kernel)
theorem wlX5_judge : Cond.selects RX5 yX5_judge yX5_judge ∈ T0 := inT0 22 (by decide +kernel) (by decide +kernel)
theorem wlX5_roomOf : Cond.selects RX5 yX5_roomOf yX5_roomOf ∈ T0 := inT0 23 (by decide +kernel) (by decide +kernel)
theorem wlX5_isSolve : Cond.selects RX5 yX5_isSolve yX5_isSolve ∈ T0 := inT0 24 (by decide +kernel) (by decide +kernel)
theorem wlX5_catchUp : Cond.selects RX5 yX5_catchUp yX5_catchUp ∈ T0 := inT0 25 (by decide +kernel) (by decide +kernel)
theorem wlX5_keepBest : Cond.selects RX5 yX5_keepBest yX5_keepBest ∈ T0 := inT0 26 (by decide +kernel) (by decide +kernel)
theorem wlX5_copyPlan : Cond.selects RX5 yX5_copyPlan yX5_copyPlan ∈ T0 := inT0 27 (by decide +kernel) (by decide +kernel)
theorem wlX5_attempt : Cond.selects RX5 yX5_attempt yX5_attempt ∈ T0 := inT0 28 (by decide +kernel) (by decide +kernel)
theorem wlX5_isFree : Cond.selects RX5 yX5_isFree yX5_isFree ∈ T0 := inT0 29 (by decide +kernel) (by decide +kernel)
theorem wlX5_nth : Cond.selects RX5 yX5_nth yX5_nth ∈ T0 := inT0 30 (by decide +kernel) (by decide +kernel)
theorem wlX5_makeFacts : Cond.selects RX5 yX5_makeFacts yX5_makeFacts ∈ T0 := inT0 31 (by decide +kernel) (by decide +kernel)
theorem wlX5_ofAll : Cond.selects RX5 yX5_ofAll yX5_ofAll ∈ T0 := inT0 32 (by decide +kernel) (by decide +kernel)
theorem wxX4_9 : Cond.methodLinkNest RX4 9 yX1_init RX4 ∈ lw_tbl := List.mem_of_getElem? (i := 54) (by decide +kernel)
theorem wxX0_101 : Cond.methodLinkNest RX0 101 yX4_isWithin RX4 ∈ lw_tbl := List.mem_of_getElem? (i := 220) (by decide +kernel)
theorem wxX3_18 : Cond.methodLinkNest RX3 18 yX4_emptyPlan RX4 ∈ lw_tbl := List.mem_of_getElem? (i := 256) (by decide +kernel)
theorem wxX0_105 : Cond.methodLinkNest RX0 105 yX4_isRoom RX4 ∈ lw_tbl := List.mem_of_getElem? (i := 339) (by decide +kernel)
theorem wxX0_121 : Cond.methodLinkNest RX0 121 yX4_scoreFrom RX4 ∈ lw_tbl := List.mem_of_getElem? (i := 352) (by decide +kernel)
theorem wxX3_138 : Cond.methodLinkNest RX3 138 yX4_isRoom RX4 ∈ lw_tbl := List.mem_of_getElem? (i := 393) (by decide +kernel)
theorem wo_Mark : Cond.arrayOver (.object "LiveChanges$Mark") ∈ lw_tbl := List.mem_of_getElem? (i := 261) (by decide +kernel)
theorem wo_Solve : Cond.arrayOver (.object "LiveChanges$Solve") ∈ lw_tbl := List.mem_of_getElem? (i := 147) (by decide +kernel)
theorem inUX0 : ∀ w ∈ u_ws RX0 TX0 11, w ∈ T0 := by
  intro w hw
  obtain ⟨k, hk, rfl⟩ := List.mem_map.mp hw
  have hk := List.mem_range.mp hk
  match k, hk with
  | 0, _ => exact inT0 122 (by decide +kernel) (by decide +kernel)
  | 1, _ => exact inT0 124 (by decide +kernel) (by decide +kernel)
  | 2, _ => exact inT0 126 (by decide +kernel) (by decide +kernel)
  | 3, _ => exact inT0 128 (by decide +kernel) (by decide +kernel)
  | 4, _ => exact inT0 130 (by decide +kernel) (by decide +kernel)
  | 5, _ => exact inT0 132 (by decide +kernel) (by decide +kernel)
  | 6, _ => exact inT0 134 (by decide +kernel) (by decide +kernel)
  | 7, _ => exact inT0 136 (by decide +kernel) (by decide +kernel)
  | 8, _ => exact inT0 138 (by decide +kernel) (by decide +kernel)
  | 9, _ => exact inT0 140 (by decide +kernel) (by decide +kernel)
  | 10, _ => exact inT0 142 (by decide +kernel) (by decide +kernel)
  | k + 11, h => exact absurd h (by omega)
theorem inUX1 : ∀ w ∈ u_ws RX1 TX1 6, w ∈ T0 := by
  intro w hw
  obtain ⟨k, hk, rfl⟩ := List.mem_map.mp hw
  have hk := List.mem_range.mp hk
  match k, hk with
  | 0, _ => exact inT0 76 (by decide +kernel) (by decide +kernel)
  | 1, _ => exact inT0 78 (by decide +kernel) (by decide +kernel)
  | 2, _ => exact inT0 80 (by decide +kernel) (by decide +kernel)
  | 3, _ => exact inT0 82 (by decide +kernel) (by decide +kernel)
  | 4, _ => exact inT0 84 (by decide +kernel) (by decide +kernel)
  | 5, _ => exact inT0 86 (by decide +kernel) (by decide +kernel)
  | k + 6, h => exact absurd h (by omega)
theorem inUX2 : ∀ w ∈ u_ws RX2 TX2 4, w ∈ T0 := by
  intro w hw
  obtain ⟨k, hk, rfl⟩ := List.mem_map.mp hw
  have hk := List.mem_range.mp hk
  match k, hk with
  | 0, _ => exact inT0 416 (by decide +kernel) (by decide +kernel)
  | 1, _ => exact inT0 418 (by decide +kernel) (by decide +kernel)
  | 2, _ => exact inT0 420 (by decide +kernel) (by decide +kernel)
  | 3, _ => exact inT0 422 (by decide +kernel) (by decide +kernel)
  | k + 4, h => exact absurd h (by omega)
theorem inUX3 : ∀ w ∈ u_ws RX3 TX3 12, w ∈ T0 := by
  intro w hw
  obtain ⟨k, hk, rfl⟩ := List.mem_map.mp hw
  have hk := List.mem_range.mp hk
  match k, hk with
  | 0, _ => exact inT0 283 (by decide +kernel) (by decide +kernel)
  | 1, _ => exact inT0 285 (by decide +kernel) (by decide +kernel)
  | 2, _ => exact inT0 287 (by decide +kernel) (by decide +kernel)
  | 3, _ => exact inT0 289 (by decide +kernel) (by decide +kernel)
  | 4, _ => exact inT0 291 (by decide +kernel) (by decide +kernel)
  | 5, _ => exact inT0 293 (by decide +kernel) (by decide +kernel)
  | 6, _ => exact inT0 295 (by decide +kernel) (by decide +kernel)
  | 7, _ => exact inT0 297 (by decide +kernel) (by decide +kernel)
  | 8, _ => exact inT0 299 (by decide +kernel) (by decide +kernel)
  | 9, _ => exact inT0 301 (by decide +kernel) (by decide +kernel)
  | 10, _ => exact inT0 303 (by decide +kernel) (by decide +kernel)
  | 11, _ => exact inT0 305 (by decide +kernel) (by decide +kernel)
  | k + 12, h => exact absurd h (by omega)
theorem inUX4 : ∀ w ∈ u_ws RX4 TX4 5, w ∈ T0 := by
  intro w hw
  obtain ⟨k, hk, rfl⟩ := List.mem_map.mp hw
  have hk := List.mem_range.mp hk
  match k, hk with
  | 0, _ => exact inT0 153 (by decide +kernel) (by decide +kernel)
  | 1, _ => exact inT0 155 (by decide +kernel) (by decide +kernel)
  | 2, _ => exact inT0 157 (by decide +kernel) (by decide +kernel)
  | 3, _ => exact inT0 159 (by decide +kernel) (by decide +kernel)
  | 4, _ => exact inT0 161 (by decide +kernel) (by decide +kernel)
  | k + 5, h => exact absurd h (by omega)
theorem inUX5 : ∀ w ∈ u_ws RX5 TX5 30, w ∈ T0 := by
  intro w hw
  obtain ⟨k, hk, rfl⟩ := List.mem_map.mp hw
  have hk := List.mem_range.mp hk
  match k, hk with
  | 0, _ => exact inT0 532 (by decide +kernel) (by decide +kernel)
  | 1, _ => exact inT0 534 (by decide +kernel) (by decide +kernel)
  | 2, _ => exact inT0 536 (by decide +kernel) (by decide +kernel)
  | 3, _ => exact inT0 538 (by decide +kernel) (by decide +kernel)
  | 4, _ => exact inT0 540 (by decide +kernel) (by decide +kernel)
  | 5, _ => exact inT0 542 (by decide +kernel) (by decide +kernel)
  | 6, _ => exact inT0 544 (by decide +kernel) (by decide +kernel)
  | 7, _ => exact inT0 546 (by decide +kernel) (by decide +kernel)
  | 8, _ => exact inT0 548 (by decide +kernel) (by decide +kernel)
  | 9, _ => exact inT0 550 (by decide +kernel) (by decide +kernel)
  | 10, _ => exact inT0 552 (by decide +kernel) (by decide +kernel)
  | 11, _ => exact inT0 554 (by decide +kernel) (by decide +kernel)
  | 12, _ => exact inT0 556 (by decide +kernel) (by decide +kernel)
  | 13, _ => exact inT0 558 (by decide +kernel) (by decide +kernel)
  | 14, _ => exact inT0 560 (by decide +kernel) (by decide +kernel)
  | 15, _ => exact inT0 562 (by decide +kernel) (by decide +kernel)
  | 16, _ => exact inT0 564 (by decide +kernel) (by decide +kernel)
  | 17, _ => exact inT0 566 (by decide +kernel) (by decide +kernel)
  | 18, _ => exact inT0 568 (by decide +kernel) (by decide +kernel)
  | 19, _ => exact inT0 570 (by decide +kernel) (by decide +kernel)
  | 20, _ => exact inT0 572 (by decide +kernel) (by decide +kernel)
  | 21, _ => exact inT0 574 (by decide +kernel) (by decide +kernel)
  | 22, _ => exact inT0 576 (by decide +kernel) (by decide +kernel)
  | 23, _ => exact inT0 578 (by decide +kernel) (by decide +kernel)
  | 24, _ => exact inT0 580 (by decide +kernel) (by decide +kernel)
  | 25, _ => exact inT0 582 (by decide +kernel) (by decide +kernel)
  | 26, _ => exact inT0 584 (by decide +kernel) (by decide +kernel)
  | 27, _ => exact inT0 586 (by decide +kernel) (by decide +kernel)
  | 28, _ => exact inT0 588 (by decide +kernel) (by decide +kernel)
  | 29, _ => exact inT0 590 (by decide +kernel) (by decide +kernel)
  | k + 30, h => exact absurd h (by omega)
def Mw (y : MethodName) (C : String) (bytes : ByteArray) (maxL : Nat) (ret : Option FieldType) (n : Nat) : Prop := Cond.code y bytes maxL ret ∈ T0 ∧ Cond.instanceMethod y ∈ T0 ∧ Cond.selects C y y ∈ T0 ∧ Cond.initialized y.cls ∈ T0 ∧ (y.cls ≠ "java/lang/invoke/MethodHandle" ∧ y.cls ≠ "java/lang/invoke/VarHandle" ∧ (parseMethodDescriptor y.desc).map (fun d => d.parameters.length) = some n) ∧ y.cls = C
def Sw (y : MethodName) (bytes : ByteArray) (maxL : Nat) (ret : Option FieldType) (n : Nat) : Prop := Cond.code y bytes maxL ret ∈ T0 ∧ Cond.static y ∈ T0 ∧ Cond.initialized y.cls ∈ T0 ∧ (y.cls ≠ "java/lang/invoke/MethodHandle" ∧ y.cls ≠ "java/lang/invoke/VarHandle" ∧ (parseMethodDescriptor y.desc).map (fun d => d.parameters.length) = some n)
def Iw (y : MethodName) (bytes : ByteArray) (maxL : Nat) (n : Nat) : Prop := Cond.code y bytes maxL none ∈ T0 ∧ Cond.instanceMethod y ∈ T0 ∧ Cond.initialized y.cls ∈ T0 ∧ (y.cls ≠ "java/lang/invoke/MethodHandle" ∧ y.cls ≠ "java/lang/invoke/VarHandle" ∧ (parseMethodDescriptor y.desc).map (fun d => d.parameters.length) = some n) ∧ y.name = "<init>"
theorem mwX4_init : Iw yX4_init cX4_init 1 0 := ⟨wcX4_init, wiX4_init, wnX4, by decide +kernel, rfl⟩
theorem mwX1_init : Iw yX1_init cX1_init 1 0 := ⟨wcX1_init, wiX1_init, wnX1, by decide +kernel, rfl⟩
theorem mwX0_init : Iw yX0_init cX0_init 1 0 := ⟨wcX0_init, wiX0_init, wnX0, by decide +kernel, rfl⟩
theorem mwX0_clear : Mw yX0_clear RX0 cX0_clear 2 none 0 := ⟨wcX0_clear, wiX0_clear, wlX0_clear, wnX0, by decide +kernel, rfl⟩
theorem mwJ7_fill_53178 : Sw yJ7_fill_53178 cJ7_fill_53178 4 none 2 := ⟨wcJ7_fill_53178, wtJ7_fill_53178, wnJ7, by decide +kernel⟩
theorem mwX4_come : Mw yX4_come RX4 cX4_come 4 (some .int) 3 := ⟨wcX4_come, wiX4_come, wlX4_come, wnX4, by decide +kernel, rfl⟩
theorem mwX4_areTraits : Sw yX4_areTraits cX4_areTraits 3 (some .boolean) 3 := ⟨wcX4_areTraits, wtX4_areTraits, wnX4, by decide +kernel⟩
theorem mwX4_isWithin : Sw yX4_isWithin cX4_isWithin 3 (some .boolean) 3 := ⟨wcX4_isWithin, wtX4_isWithin, wnX4, by decide +kernel⟩
theorem mwX4_isRoom : Sw yX4_isRoom cX4_isRoom 1 (some .boolean) 1 := ⟨wcX4_isRoom, wtX4_isRoom, wnX4, by decide +kernel⟩
theorem mwX4_enter : Mw yX4_enter RX4 cX4_enter 6 (some .int) 5 := ⟨wcX4_enter, wiX4_enter, wlX4_enter, wnX4, by decide +kernel, rfl⟩
theorem mwX1_add : Mw yX1_add RX1 cX1_add 6 none 5 := ⟨wcX1_add, wiX1_add, wlX1_add, wnX1, by decide +kernel, rfl⟩
theorem mwX0_become : Mw yX0_become RX0 cX0_become 5 none 2 := ⟨wcX0_become, wiX0_become, wlX0_become, wnX0, by decide +kernel, rfl⟩
theorem mwJ9_min_7cf53 : Sw yJ9_min_7cf53 cJ9_min_7cf53 2 (some .int) 2 := ⟨wcJ9_min_7cf53, wtJ9_min_7cf53, wnJ9, by decide +kernel⟩
theorem mwX0_learn : Mw yX0_learn RX0 cX0_learn 3 none 2 := ⟨wcX0_learn, wiX0_learn, wlX0_learn, wnX0, by decide +kernel, rfl⟩
theorem mwX0_learnOfJob : Mw yX0_learnOfJob RX0 cX0_learnOfJob 4 none 3 := ⟨wcX0_learnOfJob, wiX0_learnOfJob, wlX0_learnOfJob, wnX0, by decide +kernel, rfl⟩
theorem mwX0_setTraits : Mw yX0_setTraits RX0 cX0_setTraits 4 none 3 := ⟨wcX0_setTraits, wiX0_setTraits, wlX0_setTraits, wnX0, by decide +kernel, rfl⟩
theorem mwX0_leave : Mw yX0_leave RX0 cX0_leave 3 none 1 := ⟨wcX0_leave, wiX0_leave, wlX0_leave, wnX0, by decide +kernel, rfl⟩
theorem mwX0_setApart : Mw yX0_setApart RX0 cX0_setApart 4 none 3 := ⟨wcX0_setApart, wiX0_setApart, wlX0_setApart, wnX0, by decide +kernel, rfl⟩
theorem mwX4_go : Mw yX4_go RX4 cX4_go 2 (some .int) 1 := ⟨wcX4_go, wiX4_go, wlX4_go, wnX4, by decide +kernel, rfl⟩
theorem mwX0_has : Mw yX0_has RX0 cX0_has 2 (some .boolean) 1 := ⟨wcX0_has, wiX0_has, wlX0_has, wnX0, by decide +kernel, rfl⟩
theorem mwX4_turn : Mw yX4_turn RX4 cX4_turn 5 (some .int) 4 := ⟨wcX4_turn, wiX4_turn, wlX4_turn, wnX4, by decide +kernel, rfl⟩
theorem mwX4_size : Mw yX4_size RX4 cX4_size 3 (some .int) 2 := ⟨wcX4_size, wiX4_size, wlX4_size, wnX4, by decide +kernel, rfl⟩
theorem mwX4_apart : Mw yX4_apart RX4 cX4_apart 4 (some .int) 3 := ⟨wcX4_apart, wiX4_apart, wlX4_apart, wnX4, by decide +kernel, rfl⟩
theorem mwX0_areApart : Mw yX0_areApart RX0 cX0_areApart 3 (some .boolean) 2 := ⟨wcX0_areApart, wiX0_areApart, wlX0_areApart, wnX0, by decide +kernel, rfl⟩
theorem mwX4_lock : Mw yX4_lock RX4 cX4_lock 3 (some .int) 2 := ⟨wcX4_lock, wiX4_lock, wlX4_lock, wnX4, by decide +kernel, rfl⟩
theorem mwX4_free : Mw yX4_free RX4 cX4_free 2 (some .int) 1 := ⟨wcX4_free, wiX4_free, wlX4_free, wnX4, by decide +kernel, rfl⟩
theorem mwX4_solve : Mw yX4_solve RX4 cX4_solve 3 (some .int) 2 := ⟨wcX4_solve, wiX4_solve, wlX4_solve, wnX4, by decide +kernel, rfl⟩
theorem mwX3_init : Iw yX3_init cX3_init 3 2 := ⟨wcX3_init, wiX3_init, wnX3, by decide +kernel, rfl⟩
theorem mwX4_emptyPlan : Sw yX4_emptyPlan cX4_emptyPlan 1 (some (.array .int)) 0 := ⟨wcX4_emptyPlan, wtX4_emptyPlan, wnX4, by decide +kernel⟩
theorem mwX4_take : Mw yX4_take RX4 cX4_take 4 (some .int) 2 := ⟨wcX4_take, wiX4_take, wlX4_take, wnX4, by decide +kernel, rfl⟩
theorem mwX4_solveOf : Mw yX4_solveOf RX4 cX4_solveOf 2 (some (.object "LiveChanges$Solve")) 1 := ⟨wcX4_solveOf, wiX4_solveOf, wlX4_solveOf, wnX4, by decide +kernel, rfl⟩
theorem mwX3_catchUp : Mw yX3_catchUp RX3 cX3_catchUp 6 (some .int) 2 := ⟨wcX3_catchUp, wiX3_catchUp, wlX3_catchUp, wnX3, by decide +kernel, rfl⟩
theorem mwX3_followChange : Mw yX3_followChange RX3 cX3_followChange 4 none 2 := ⟨wcX3_followChange, wiX3_followChange, wlX3_followChange, wnX3, by decide +kernel, rfl⟩
theorem mwX3_putInBoth : Mw yX3_putInBoth RX3 cX3_putInBoth 3 none 2 := ⟨wcX3_putInBoth, wiX3_putInBoth, wlX3_putInBoth, wnX3, by decide +kernel, rfl⟩
theorem mwX3_scoreAnew : Mw yX3_scoreAnew RX3 cX3_scoreAnew 1 none 0 := ⟨wcX3_scoreAnew, wiX3_scoreAnew, wlX3_scoreAnew, wnX3, by decide +kernel, rfl⟩
theorem mwX0_scoreOf : Mw yX0_scoreOf RX0 cX0_scoreOf 6 (some .long) 1 := ⟨wcX0_scoreOf, wiX0_scoreOf, wlX0_scoreOf, wnX0, by decide +kernel, rfl⟩
theorem mwJ6_bitCount_0f7a4 : Sw yJ6_bitCount_0f7a4 cJ6_bitCount_0f7a4 1 (some .int) 1 := ⟨wcJ6_bitCount_0f7a4, wtJ6_bitCount_0f7a4, wnJ6, by decide +kernel⟩
theorem mwJ9_abs_0f7a4 : Sw yJ9_abs_0f7a4 cJ9_abs_0f7a4 1 (some .int) 1 := ⟨wcJ9_abs_0f7a4, wtJ9_abs_0f7a4, wnJ9, by decide +kernel⟩
theorem mwJ9_max_7cf53 : Sw yJ9_max_7cf53 cJ9_max_7cf53 2 (some .int) 2 := ⟨wcJ9_max_7cf53, wtJ9_max_7cf53, wnJ9, by decide +kernel⟩
theorem mwX4_scoreFrom : Sw yX4_scoreFrom cX4_scoreFrom 2 (some .long) 2 := ⟨wcX4_scoreFrom, wtX4_scoreFrom, wnX4, by decide +kernel⟩
theorem mwX3_keepIfBest : Mw yX3_keepIfBest RX3 cX3_keepIfBest 1 none 0 := ⟨wcX3_keepIfBest, wiX3_keepIfBest, wlX3_keepIfBest, wnX3, by decide +kernel, rfl⟩
theorem mwJ7_fill_d0a16 : Sw yJ7_fill_d0a16 cJ7_fill_d0a16 5 none 2 := ⟨wcJ7_fill_d0a16, wtJ7_fill_d0a16, wnJ7, by decide +kernel⟩
theorem mwX4_step : Mw yX4_step RX4 cX4_step 4 (some .int) 2 := ⟨wcX4_step, wiX4_step, wlX4_step, wnX4, by decide +kernel, rfl⟩
theorem mwX3_makeSteps : Mw yX3_makeSteps RX3 cX3_makeSteps 5 (some .int) 1 := ⟨wcX3_makeSteps, wiX3_makeSteps, wlX3_makeSteps, wnX3, by decide +kernel, rfl⟩
theorem mwX0_listMovable : Mw yX0_listMovable RX0 cX0_listMovable 4 (some .int) 1 := ⟨wcX0_listMovable, wiX0_listMovable, wlX0_listMovable, wnX0, by decide +kernel, rfl⟩
theorem mwX3_makeStep : Mw yX3_makeStep RX3 cX3_makeStep 3 none 1 := ⟨wcX3_makeStep, wiX3_makeStep, wlX3_makeStep, wnX3, by decide +kernel, rfl⟩
theorem mwX3_latePlace : Mw yX3_latePlace RX3 cX3_latePlace 1 (some .int) 0 := ⟨wcX3_latePlace, wiX3_latePlace, wlX3_latePlace, wnX3, by decide +kernel, rfl⟩
theorem mwJ9_floorMod_7cf53 : Sw yJ9_floorMod_7cf53 cJ9_floorMod_7cf53 3 (some .int) 2 := ⟨wcJ9_floorMod_7cf53, wtJ9_floorMod_7cf53, wnJ9, by decide +kernel⟩
theorem mwX3_tryPlan : Mw yX3_tryPlan RX3 cX3_tryPlan 11 none 2 := ⟨wcX3_tryPlan, wiX3_tryPlan, wlX3_tryPlan, wnX3, by decide +kernel, rfl⟩
theorem mwX4_mark : Mw yX4_mark RX4 cX4_mark 4 (some .int) 2 := ⟨wcX4_mark, wiX4_mark, wlX4_mark, wnX4, by decide +kernel, rfl⟩
theorem mwX4_isMark : Sw yX4_isMark cX4_isMark 1 (some .boolean) 1 := ⟨wcX4_isMark, wtX4_isMark, wnX4, by decide +kernel⟩
theorem mwX2_init : Iw yX2_init cX2_init 2 1 := ⟨wcX2_init, wiX2_init, wnX2, by decide +kernel, rfl⟩
theorem mwX3_keepIn : Mw yX3_keepIn RX3 cX3_keepIn 2 none 1 := ⟨wcX3_keepIn, wiX3_keepIn, wlX3_keepIn, wnX3, by decide +kernel, rfl⟩
theorem mwX4_back : Mw yX4_back RX4 cX4_back 5 (some .int) 2 := ⟨wcX4_back, wiX4_back, wlX4_back, wnX4, by decide +kernel, rfl⟩
theorem mwX3_goBackTo : Mw yX3_goBackTo RX3 cX3_goBackTo 4 none 2 := ⟨wcX3_goBackTo, wiX3_goBackTo, wlX3_goBackTo, wnX3, by decide +kernel, rfl⟩
theorem mwX4_room : Mw yX4_room RX4 cX4_room 5 (some .int) 3 := ⟨wcX4_room, wiX4_room, wlX4_room, wnX4, by decide +kernel, rfl⟩
theorem mwX3_rooms : Mw yX3_rooms RX3 cX3_rooms 2 (some (.array .int)) 1 := ⟨wcX3_rooms, wiX3_rooms, wlX3_rooms, wnX3, by decide +kernel, rfl⟩
theorem mwX4_score : Mw yX4_score RX4 cX4_score 5 (some .int) 3 := ⟨wcX4_score, wiX4_score, wlX4_score, wnX4, by decide +kernel, rfl⟩
theorem mwX4_partOf : Sw yX4_partOf cX4_partOf 3 (some .int) 2 := ⟨wcX4_partOf, wtX4_partOf, wnX4, by decide +kernel⟩
theorem mwX4_scoreBy : Mw yX4_scoreBy RX4 cX4_scoreBy 6 (some .int) 4 := ⟨wcX4_scoreBy, wiX4_scoreBy, wlX4_scoreBy, wnX4, by decide +kernel, rfl⟩
theorem mwX4_same : Mw yX4_same RX4 cX4_same 5 (some .int) 2 := ⟨wcX4_same, wiX4_same, wlX4_same, wnX4, by decide +kernel, rfl⟩
theorem mwX3_isLike : Mw yX3_isLike RX3 cX3_isLike 3 (some .boolean) 1 := ⟨wcX3_isLike, wiX3_isLike, wlX3_isLike, wnX3, by decide +kernel, rfl⟩
theorem mwX4_told : Mw yX4_told RX4 cX4_told 4 (some .int) 2 := ⟨wcX4_told, wiX4_told, wlX4_told, wnX4, by decide +kernel, rfl⟩
theorem mwX4_fact : Mw yX4_fact RX4 cX4_fact 4 (some .int) 1 := ⟨wcX4_fact, wiX4_fact, wlX4_fact, wnX4, by decide +kernel, rfl⟩
theorem mwX4_countOf : Mw yX4_countOf RX4 cX4_countOf 2 (some .int) 1 := ⟨wcX4_countOf, wiX4_countOf, wlX4_countOf, wnX4, by decide +kernel, rfl⟩
theorem mwX0_countThere : Mw yX0_countThere RX0 cX0_countThere 3 (some .int) 0 := ⟨wcX0_countThere, wiX0_countThere, wlX0_countThere, wnX0, by decide +kernel, rfl⟩
theorem mwX4_traitOf : Mw yX4_traitOf RX4 cX4_traitOf 3 (some .int) 2 := ⟨wcX4_traitOf, wiX4_traitOf, wlX4_traitOf, wnX4, by decide +kernel, rfl⟩
theorem mwX4_change : Mw yX4_change RX4 cX4_change 2 (some .int) 1 := ⟨wcX4_change, wiX4_change, wlX4_change, wnX4, by decide +kernel, rfl⟩
theorem mwX5_init : Iw yX5_init cX5_init 1 0 := ⟨wcX5_init, wiX5_init, wnX5, by decide +kernel, rfl⟩
theorem mwX5_forget : Mw yX5_forget RX5 cX5_forget 3 none 1 := ⟨wcX5_forget, wiX5_forget, wlX5_forget, wnX5, by decide +kernel, rfl⟩
theorem mwX5_come : Mw yX5_come RX5 cX5_come 5 (some .int) 3 := ⟨wcX5_come, wiX5_come, wlX5_come, wnX5, by decide +kernel, rfl⟩
theorem mwX5_isTold : Sw yX5_isTold cX5_isTold 3 (some .boolean) 3 := ⟨wcX5_isTold, wtX5_isTold, wnX5, by decide +kernel⟩
theorem mwX5_in : Sw yX5_in cX5_in 3 (some .boolean) 3 := ⟨wcX5_in, wtX5_in, wnX5, by decide +kernel⟩
theorem mwX5_add : Mw yX5_add RX5 cX5_add 6 (some .int) 5 := ⟨wcX5_add, wiX5_add, wlX5_add, wnX5, by decide +kernel, rfl⟩
theorem mwX5_apply : Mw yX5_apply RX5 cX5_apply 5 none 2 := ⟨wcX5_apply, wiX5_apply, wlX5_apply, wnX5, by decide +kernel, rfl⟩
theorem mwX5_tell : Mw yX5_tell RX5 cX5_tell 3 none 2 := ⟨wcX5_tell, wiX5_tell, wlX5_tell, wnX5, by decide +kernel, rfl⟩
theorem mwX5_go : Mw yX5_go RX5 cX5_go 2 (some .int) 1 := ⟨wcX5_go, wiX5_go, wlX5_go, wnX5, by decide +kernel, rfl⟩
theorem mwX5_isJob : Mw yX5_isJob RX5 cX5_isJob 2 (some .boolean) 1 := ⟨wcX5_isJob, wiX5_isJob, wlX5_isJob, wnX5, by decide +kernel, rfl⟩
theorem mwX5_turn : Mw yX5_turn RX5 cX5_turn 5 (some .int) 4 := ⟨wcX5_turn, wiX5_turn, wlX5_turn, wnX5, by decide +kernel, rfl⟩
theorem mwX5_size : Mw yX5_size RX5 cX5_size 3 (some .int) 2 := ⟨wcX5_size, wiX5_size, wlX5_size, wnX5, by decide +kernel, rfl⟩
theorem mwX5_apart : Mw yX5_apart RX5 cX5_apart 5 (some .int) 3 := ⟨wcX5_apart, wiX5_apart, wlX5_apart, wnX5, by decide +kernel, rfl⟩
theorem mwX5_lock : Mw yX5_lock RX5 cX5_lock 3 (some .int) 2 := ⟨wcX5_lock, wiX5_lock, wlX5_lock, wnX5, by decide +kernel, rfl⟩
theorem mwX5_free : Mw yX5_free RX5 cX5_free 2 (some .int) 1 := ⟨wcX5_free, wiX5_free, wlX5_free, wnX5, by decide +kernel, rfl⟩
theorem mwX5_solve : Mw yX5_solve RX5 cX5_solve 5 (some .int) 2 := ⟨wcX5_solve, wiX5_solve, wlX5_solve, wnX5, by decide +kernel, rfl⟩
theorem mwX5_fillLate : Mw yX5_fillLate RX5 cX5_fillLate 3 none 1 := ⟨wcX5_fillLate, wiX5_fillLate, wlX5_fillLate, wnX5, by decide +kernel, rfl⟩
theorem mwX5_judge : Mw yX5_judge RX5 cX5_judge 9 none 3 := ⟨wcX5_judge, wiX5_judge, wlX5_judge, wnX5, by decide +kernel, rfl⟩
theorem mwX5_roomOf : Mw yX5_roomOf RX5 cX5_roomOf 4 (some .int) 3 := ⟨wcX5_roomOf, wiX5_roomOf, wlX5_roomOf, wnX5, by decide +kernel, rfl⟩
theorem mwX5_take : Mw yX5_take RX5 cX5_take 3 (some .int) 2 := ⟨wcX5_take, wiX5_take, wlX5_take, wnX5, by decide +kernel, rfl⟩
theorem mwX5_isSolve : Mw yX5_isSolve RX5 cX5_isSolve 2 (some .boolean) 1 := ⟨wcX5_isSolve, wiX5_isSolve, wlX5_isSolve, wnX5, by decide +kernel, rfl⟩
theorem mwX5_catchUp : Mw yX5_catchUp RX5 cX5_catchUp 7 (some .int) 2 := ⟨wcX5_catchUp, wiX5_catchUp, wlX5_catchUp, wnX5, by decide +kernel, rfl⟩
theorem mwX5_keepBest : Mw yX5_keepBest RX5 cX5_keepBest 4 none 1 := ⟨wcX5_keepBest, wiX5_keepBest, wlX5_keepBest, wnX5, by decide +kernel, rfl⟩
theorem mwX5_isBetter : Sw yX5_isBetter cX5_isBetter 4 (some .boolean) 4 := ⟨wcX5_isBetter, wtX5_isBetter, wnX5, by decide +kernel⟩
theorem mwX5_copyPlan : Mw yX5_copyPlan RX5 cX5_copyPlan 4 none 2 := ⟨wcX5_copyPlan, wiX5_copyPlan, wlX5_copyPlan, wnX5, by decide +kernel, rfl⟩
theorem mwX5_step : Mw yX5_step RX5 cX5_step 7 (some .int) 2 := ⟨wcX5_step, wiX5_step, wlX5_step, wnX5, by decide +kernel, rfl⟩
theorem mwX5_attempt : Mw yX5_attempt RX5 cX5_attempt 8 none 1 := ⟨wcX5_attempt, wiX5_attempt, wlX5_attempt, wnX5, by decide +kernel, rfl⟩
theorem mwX5_isFree : Mw yX5_isFree RX5 cX5_isFree 3 (some .boolean) 2 := ⟨wcX5_isFree, wiX5_isFree, wlX5_isFree, wnX5, by decide +kernel, rfl⟩
theorem mwX5_nth : Mw yX5_nth RX5 cX5_nth 5 (some .int) 2 := ⟨wcX5_nth, wiX5_nth, wlX5_nth, wnX5, by decide +kernel, rfl⟩
theorem mwX5_mark : Mw yX5_mark RX5 cX5_mark 5 (some .int) 2 := ⟨wcX5_mark, wiX5_mark, wlX5_mark, wnX5, by decide +kernel, rfl⟩
theorem mwX5_back : Mw yX5_back RX5 cX5_back 6 (some .int) 2 := ⟨wcX5_back, wiX5_back, wlX5_back, wnX5, by decide +kernel, rfl⟩
theorem mwX5_makeFacts : Mw yX5_makeFacts RX5 cX5_makeFacts 4 none 2 := ⟨wcX5_makeFacts, wiX5_makeFacts, wlX5_makeFacts, wnX5, by decide +kernel, rfl⟩
theorem mwX5_room : Mw yX5_room RX5 cX5_room 4 (some .int) 3 := ⟨wcX5_room, wiX5_room, wlX5_room, wnX5, by decide +kernel, rfl⟩
theorem mwX5_score : Mw yX5_score RX5 cX5_score 4 (some .int) 3 := ⟨wcX5_score, wiX5_score, wlX5_score, wnX5, by decide +kernel, rfl⟩
theorem mwX5_scoreBy : Mw yX5_scoreBy RX5 cX5_scoreBy 5 (some .int) 4 := ⟨wcX5_scoreBy, wiX5_scoreBy, wlX5_scoreBy, wnX5, by decide +kernel, rfl⟩
theorem mwX5_same : Mw yX5_same RX5 cX5_same 5 (some .int) 2 := ⟨wcX5_same, wiX5_same, wlX5_same, wnX5, by decide +kernel, rfl⟩
theorem mwX5_told : Mw yX5_told RX5 cX5_told 4 (some .int) 2 := ⟨wcX5_told, wiX5_told, wlX5_told, wnX5, by decide +kernel, rfl⟩
theorem mwX5_fact : Mw yX5_fact RX5 cX5_fact 4 (some .int) 1 := ⟨wcX5_fact, wiX5_fact, wlX5_fact, wnX5, by decide +kernel, rfl⟩
theorem mwX5_ofAll : Mw yX5_ofAll RX5 cX5_ofAll 4 (some .int) 1 := ⟨wcX5_ofAll, wiX5_ofAll, wlX5_ofAll, wnX5, by decide +kernel, rfl⟩
theorem mwX5_change : Mw yX5_change RX5 cX5_change 2 (some .int) 1 := ⟨wcX5_change, wiX5_change, wlX5_change, wnX5, by decide +kernel, rfl⟩
end
section
/-! THE BASE: a frame's picture (locals, stack, world) without heap names; rows over it; contracts over it -/
/-- the nest words and array words that no list carries, and the classes of the arrays -/
abbrev xt (cA : Nat → ClassId) : List (ClassId × FieldType) := [(cA 0, .int), (cA 1, .long), (cA 2, .boolean), (cA 3, .object "LiveChanges$Mark"), (cA 4, .object "LiveChanges$Solve")]
def KX (D : va_G) (cA : Nat → ClassId) (U : State) : Prop :=
  va_K D vwCl (xt cA) U ∧ (va_Nw (.methodLinkNest RX4 9 yX1_init RX4) U ∧ va_Nw (.methodLinkNest RX0 101 yX4_isWithin RX4) U ∧ va_Nw (.methodLinkNest RX0 105 yX4_isRoom RX4) U ∧ va_Nw (.methodLinkNest RX0 121 yX4_scoreFrom RX4) U ∧ va_Nw (.methodLinkNest RX3 138 yX4_isRoom RX4) U ∧ va_Nw (.methodLinkNest RX3 18 yX4_emptyPlan RX4) U) ∧ va_AO "LiveChanges$Mark" U ∧ va_AO "LiveChanges$Solve" U
theorem KX.warm {D : va_G} {cA : Nat → ClassId} {s U : State} (hW : s.WarmedH U.vm) (h : KX D cA s) : KX D cA U :=
  ⟨va_K.moved hW.alike h.1, ⟨va_Nw.warmM hW h.2.1.1, va_Nw.warmM hW h.2.1.2.1, va_Nw.warmM hW h.2.1.2.2.1, va_Nw.warmM hW h.2.1.2.2.2.1, va_Nw.warmM hW h.2.1.2.2.2.2.1, va_Nw.warmM hW h.2.1.2.2.2.2.2⟩, va_AO.moved hW.alike h.2.2.1, va_AO.moved hW.alike h.2.2.2⟩
theorem KX.same {D : va_G} {cA : Nat → ClassId} {u U : State} (hv : u.vm = U.vm) (h : KX D cA u) : KX D cA U :=
  ⟨va_K.moved (by rw [hv]; exact Vm.Alike.refl _) h.1, ⟨va_Nw.same rfl hv h.2.1.1, va_Nw.same rfl hv h.2.1.2.1, va_Nw.same rfl hv h.2.1.2.2.1, va_Nw.same rfl hv h.2.1.2.2.2.1, va_Nw.same rfl hv h.2.1.2.2.2.2.1, va_Nw.same rfl hv h.2.1.2.2.2.2.2⟩, va_AO.moved (by rw [hv]; exact Vm.Alike.refl _) h.2.2.1, va_AO.moved (by rw [hv]; exact Vm.Alike.refl _) h.2.2.2⟩
/-- the room of a method that has n levels of calls below it -/
abbrev rmL (n mc ms : Nat) : Room := { frames := n, cells := mc, slots := ms, locals := 36 * n }
def Qg {S : Type} (post : Option Value → S → Prop) (B : S → State → Prop) (A : Nat → Prop) : Array Value → State → Outcome → State → Prop := fun _ st oc t => (∃ (r : Option Value) (u : S), oc = .returned r ∧ post r u ∧ B u t) ∧ va_F A st t
def xPre (D : va_G) (cA : Nat → ClassId) (av : List Value) (w0 : va_W) (sz : Nat) : Array Value → State → Prop := va_Pc av (fun U => U.heap.size = sz ∧ va_P D vwCl w0 U.heap ∧ va_D (fun _ => True) w0 ∧ KX D cA U)
def xB {S : Type} (D : va_G) (w0 : va_W) (sz : Nat) (wf : S → va_W) (u : S) (t : State) : Prop := va_P D vwCl (wf u) t.heap ∧ va_D (va_A w0 sz) (wf u)
/-- A CONTRACT: from the world w0 and the arguments av, the method returns r with post r u, and the world is wf u -/
def Cg {S : Type} (l : Launch) (D : va_G) (cA : Nat → ClassId) (y : MethodName) (bytes : ByteArray) (nL : Nat) (ret : Option FieldType) (n mc ms : Nat) (av : List Value) (w0 : va_W) (post : Option Value → S → Prop) (wf : S → va_W) : Prop :=
  ∀ sz : Nat, Met l y (Cond.code y bytes nL ret :: T0) (rmL n mc ms) (xPre D cA av w0 sz) (Qg post (xB D w0 sz wf) (va_A w0 sz)) mc ms (va_A w0 sz)
/-- what is fixed in a method's walk -/
def Fx (p : Program) (m : MethodId) (c : Code) (cc : ByteArray) (nL : Nat) (s : State) (args : Array Value) (own : String) (meth : Method) (ret : Option FieldType) (D : va_G) (cA : Nat → ClassId) (A : Nat → Prop) : Prop :=
  CallFix p m c cc nL s args T0 own ∧ KX D cA s ∧ (∀ q, s.heap.size ≤ q → A q) ∧ meth.sig.returnType = ret ∧ meth.locks = false
/-- the machine at pc with locals lv, stack st, world ws comes to Q -/
def Wx (p : Program) (l : Launch) (e : Env) (R : Room) (s : State) (m : MethodId) (args : Array Value) (below : List Frame) (meth : Method) (c : Code) (cells slots : Nat) (Q : State → Prop) (nL : Nat) (D : va_G) (A : Nat → Prop) (pc : Nat) (lv : List (Nat × Value)) (st : List Value) (ws : va_W) : Prop :=
  ∀ (H : Heap) (locs : List Loc) (ls : Array Slot), va_P D vwCl ws H → va_D A ws → va_S A s.heap H locs → lv_has ls nL lv → W p l e R s m args below meth c H locs cells slots Q (F0 m pc ls st)
abbrev xQ {S : Type} (below : List Frame) (D : va_G) (w0 : va_W) (s : State) (args : Array Value) (mc ms : Nat) (post : Option Value → S → Prop) (wf : S → va_W) : State → Prop :=
  MQ below (Qg post (xB D w0 s.heap.size wf) (va_A w0 s.heap.size)) args s mc ms (va_A w0 s.heap.size)
theorem xPre_blind {D : va_G} {cA : Nat → ClassId} {av : List Value} {w0 : va_W} {sz : Nat} : FrameBlind (xPre D cA av w0 sz) := by
  intro a U g mk q
  obtain ⟨q0, q1, q2, q3, q4⟩ := q
  exact ⟨q0, q1, q2, q3, KX.same (u := U) (U := U.calling g mk a) rfl q4⟩
set_option maxHeartbeats 1000000 in
theorem x_met {S : Type} {l : Launch} {D : va_G} {cA : Nat → ClassId} {y : MethodName} {n mc ms : Nat} {av : List Value} {w0 : va_W} {post : Option Value → S → Prop} {wf : S → va_W} {cc : ByteArray} {nL : Nat} {ret : Option FieldType} {own : String}
    (hy : plainName y.cls = true) (ho : y.cls = own) (hlen : (lg_sl av).length ≤ nL)
    (body : ∀ (p : Program) (e : Env) (s : State) (m : MethodId) (below : List Frame) (meth : Method) (c : Code), Fx p m c cc nL s av.toArray own meth ret D cA (va_A w0 s.heap.size) → meth.name = y.name →
      Wx p l e (rmL n mc ms) s m av.toArray below meth c 0 0 (xQ below D w0 s av.toArray mc ms post wf) nL D (va_A w0 s.heap.size) 0 (lv_args 0 av) [] w0) : Cg l D cA y cc nL ret n mc ms av w0 post wf := by
  intro sz
  refine Met.ofW (cc := cc) (maxL := nL) (ret := ret) hy rfl ?_
  intro p e s m args below meth c s₁ B hml hv
  obtain ⟨rfl, hsz, hP, hD0, hK⟩ := hv
  subst hsz
  have hown : s.vm.findClass own = some m.cls := by rw [← ho]; exact findClass_of_methodNamed B.named
  have hl := lv_entry av (n := nL) hlen
  rw [lg_entry_eq]
  exact body p e s m below meth c ⟨⟨B.exec, B.bytes, hml, hown, fun w hw => atoms_spec (ws := Cond.code y cc nL ret :: T0) B.pre w (List.mem_cons_of_mem _ hw)⟩, hK, fun q h => Or.inr h, B.returns, B.notSynchronized⟩ (name_of_methodNamed B.named B.method).1 s.heap [] _ hP (hD0.self) va_S.rf hl
set_option maxHeartbeats 1000000 in
theorem x_metF {S : Type} {l : Launch} {D : va_G} {cA : Nat → ClassId} {y : MethodName} {n mc ms : Nat} {av : List Value} {w0 : va_W} {post : Option Value → S → Prop} {wf : S → va_W} {cc : ByteArray} {nL : Nat} {ret : Option FieldType} {own : String}
    (hy : plainFor y = true) (ho : y.cls = own) (hlen : (lg_sl av).length ≤ nL)
    (body : ∀ (p : Program) (e : Env) (s : State) (m : MethodId) (below : List Frame) (meth : Method) (c : Code), Fx p m c cc nL s av.toArray own meth ret D cA (va_A w0 s.heap.size) → meth.name = y.name →
      Wx p l e (rmL n mc ms) s m av.toArray below meth c 0 0 (xQ below D w0 s av.toArray mc ms post wf) nL D (va_A w0 s.heap.size) 0 (lv_args 0 av) [] w0) : Cg l D cA y cc nL ret n mc ms av w0 post wf := by
  intro sz
  refine va_MetF (cc := cc) (maxL := nL) (ret := ret) hy rfl ?_
  intro p e s m args below meth c s₁ B hml hv
  obtain ⟨rfl, hsz, hP, hD0, hK⟩ := hv
  subst hsz
  have hown : s.vm.findClass own = some m.cls := by rw [← ho]; exact findClass_of_methodNamed B.named
  have hl := lv_entry av (n := nL) hlen
  rw [lg_entry_eq]
  exact body p e s m below meth c ⟨⟨B.exec, B.bytes, hml, hown, fun w hw => atoms_spec (ws := Cond.code y cc nL ret :: T0) B.pre w (List.mem_cons_of_mem _ hw)⟩, hK, fun q h => Or.inr h, B.returns, B.notSynchronized⟩ (name_of_methodNamed B.named B.method).1 s.heap [] _ hP (hD0.self) va_S.rf hl
section XB
variable {p : Program} {l : Launch} {e : Env} {R : Room} {s : State} {m : MethodId} {args : Array Value} {below : List Frame} {meth : Method} {c : Code} {cells slots : Nat} {Q : State → Prop} {cc : ByteArray} {nL : Nat} {own : String} {ret : Option FieldType} {D : va_G} {cA : Nat → ClassId} {A : Nat → Prop} {pc : Nat} {lv : List (Nat × Value)} {st : List Value} {ws : va_W}
-- constants
theorem x_iconst (F : Fx p m c cc nL s args own meth ret D cA A) {n : Int} (v : Int32) (d : decode cc pc = .ok (.iconst n, 1)) (hv : Int32.ofInt n = v) (k : Wx p l e R s m args below meth c cells slots Q nL D A (pc + 1) lv (.int v :: st) ws) : Wx p l e R s m args below meth c cells slots Q nL D A pc lv st ws := fun H locs ls hP hD hS hl => lv_iconst F.1.1 F.1.2.1 d hv (k H locs ls hP hD hS hl)
theorem x_bipush (F : Fx p m c cc nL s args own meth ret D cA A) {n : Int} (v : Int32) (d : decode cc pc = .ok (.bipush n, 2)) (hv : (Int8.ofInt n).toInt32 = v) (k : Wx p l e R s m args below meth c cells slots Q nL D A (pc + 2) lv (.int v :: st) ws) : Wx p l e R s m args below meth c cells slots Q nL D A pc lv st ws := fun H locs ls hP hD hS hl => lv_bipush F.1.1 F.1.2.1 d hv (k H locs ls hP hD hS hl)
theorem x_sipush (F : Fx p m c cc nL s args own meth ret D cA A) {n : Int} (v : Int32) (d : decode cc pc = .ok (.sipush n, 3)) (hv : (Int16.ofInt n).toInt32 = v) (k : Wx p l e R s m args below meth c cells slots Q nL D A (pc + 3) lv (.int v :: st) ws) : Wx p l e R s m args below meth c cells slots Q nL D A pc lv st ws := fun H locs ls hP hD hS hl => lv_sipush F.1.1 F.1.2.1 d hv (k H locs ls hP hD hS hl)
theorem x_lconst (F : Fx p m c cc nL s args own meth ret D cA A) {n : Fin 2} (v : Int64) (d : decode cc pc = .ok (.lconst n, 1)) (hv : Int64.ofNat (n : Nat) = v) (k : Wx p l e R s m args below meth c cells slots Q nL D A (pc + 1) lv (.long v :: st) ws) : Wx p l e R s m args below meth c cells slots Q nL D A pc lv st ws := fun H locs ls hP hD hS hl => lv_lconst F.1.1 F.1.2.1 d hv (k H locs ls hP hD hS hl)
theorem x_null (F : Fx p m c cc nL s args own meth ret D cA A) (d : decode cc pc = .ok (.aconst_null, 1)) (k : Wx p l e R s m args below meth c cells slots Q nL D A (pc + 1) lv (.null :: st) ws) : Wx p l e R s m args below meth c cells slots Q nL D A pc lv st ws := fun H locs ls hP hD hS hl => lv_null F.1.1 F.1.2.1 d (k H locs ls hP hD hS hl)
theorem x_ldc (F : Fx p m c cc nL s args own meth ret D cA A) {index : Nat} (v : Int32) (hw : Jvm.Cond.constant own index v ∈ T0) (d : decode cc pc = .ok (.ldc index, 2)) (k : Wx p l e R s m args below meth c cells slots Q nL D A (pc + 2) lv (.int v :: st) ws) : Wx p l e R s m args below meth c cells slots Q nL D A pc lv st ws := fun H locs ls hP hD hS hl => lv_ldc F.1.1 F.1.2.1 F.1.2.2.2.1 (F.1.2.2.2.2 _ hw) d (k H locs ls hP hD hS hl)
theorem x_ldcw (F : Fx p m c cc nL s args own meth ret D cA A) {index : Nat} (v : Int32) (hw : Jvm.Cond.constant own index v ∈ T0) (d : decode cc pc = .ok (.ldc_w index, 3)) (k : Wx p l e R s m args below meth c cells slots Q nL D A (pc + 3) lv (.int v :: st) ws) : Wx p l e R s m args below meth c cells slots Q nL D A pc lv st ws := fun H locs ls hP hD hS hl => lv_ldcw F.1.1 F.1.2.1 F.1.2.2.2.1 (F.1.2.2.2.2 _ hw) d (k H locs ls hP hD hS hl)
-- locals
theorem x_iload_n (F : Fx p m c cc nL s args own meth ret D cA A) {i : Fin 4} {x : Int32} (j : Nat) (d : decode cc pc = .ok (.iload_n i, 1)) (hl0 : lv[j]? = some ((i : Nat), .int x)) (k : Wx p l e R s m args below meth c cells slots Q nL D A (pc + 1) lv (.int x :: st) ws) : Wx p l e R s m args below meth c cells slots Q nL D A pc lv st ws := fun H locs ls hP hD hS hl => lv_iload_n F.1.1 F.1.2.1 d rfl (lv_at hl j hl0) (k H locs ls hP hD hS hl)
theorem x_iload (F : Fx p m c cc nL s args own meth ret D cA A) {i : Nat} {x : Int32} (j : Nat) (d : decode cc pc = .ok (.iload i, 2)) (hl0 : lv[j]? = some (i, .int x)) (k : Wx p l e R s m args below meth c cells slots Q nL D A (pc + 2) lv (.int x :: st) ws) : Wx p l e R s m args below meth c cells slots Q nL D A pc lv st ws := fun H locs ls hP hD hS hl => lv_iload F.1.1 F.1.2.1 d (lv_at hl j hl0) (k H locs ls hP hD hS hl)
theorem x_lload_n (F : Fx p m c cc nL s args own meth ret D cA A) {i : Fin 4} {x : Int64} (j : Nat) (d : decode cc pc = .ok (.lload_n i, 1)) (hl0 : lv[j]? = some ((i : Nat), .long x)) (k : Wx p l e R s m args below meth c cells slots Q nL D A (pc + 1) lv (.long x :: st) ws) : Wx p l e R s m args below meth c cells slots Q nL D A pc lv st ws := fun H locs ls hP hD hS hl => lv_lload_n F.1.1 F.1.2.1 d rfl (lv_at hl j hl0) (k H locs ls hP hD hS hl)
theorem x_lload (F : Fx p m c cc nL s args own meth ret D cA A) {i : Nat} {x : Int64} (j : Nat) (d : decode cc pc = .ok (.lload i, 2)) (hl0 : lv[j]? = some (i, .long x)) (k : Wx p l e R s m args below meth c cells slots Q nL D A (pc + 2) lv (.long x :: st) ws) : Wx p l e R s m args below meth c cells slots Q nL D A pc lv st ws := fun H locs ls hP hD hS hl => lv_lload F.1.1 F.1.2.1 d (lv_at hl j hl0) (k H locs ls hP hD hS hl)
theorem x_aload_n (F : Fx p m c cc nL s args own meth ret D cA A) {i : Fin 4} {x : Nat} (j : Nat) (d : decode cc pc = .ok (.aload_n i, 1)) (hl0 : lv[j]? = some ((i : Nat), .ref x)) (k : Wx p l e R s m args below meth c cells slots Q nL D A (pc + 1) lv (.ref x :: st) ws) : Wx p l e R s m args below meth c cells slots Q nL D A pc lv st ws := fun H locs ls hP hD hS hl => lv_aload_n F.1.1 F.1.2.1 d rfl (lv_at hl j hl0) (k H locs ls hP hD hS hl)
theorem x_aload (F : Fx p m c cc nL s args own meth ret D cA A) {i : Nat} {x : Nat} (j : Nat) (d : decode cc pc = .ok (.aload i, 2)) (hl0 : lv[j]? = some (i, .ref x)) (k : Wx p l e R s m args below meth c cells slots Q nL D A (pc + 2) lv (.ref x :: st) ws) : Wx p l e R s m args below meth c cells slots Q nL D A pc lv st ws := fun H locs ls hP hD hS hl => lv_aload F.1.1 F.1.2.1 d (lv_at hl j hl0) (k H locs ls hP hD hS hl)
theorem x_istore_n (F : Fx p m c cc nL s args own meth ret D cA A) {i : Fin 4} {x : Int32} (lv' : List (Nat × Value)) (d : decode cc pc = .ok (.istore_n i, 1)) (hn : (i : Nat) < nL) (hl' : ((i : Nat), Value.int x) :: lv.filter (fun q => !(q.1 == (i : Nat)) && !(q.1 + 1 == (i : Nat) && q.2.category == 2)) = lv') (k : Wx p l e R s m args below meth c cells slots Q nL D A (pc + 1) lv' st ws) : Wx p l e R s m args below meth c cells slots Q nL D A pc lv (.int x :: st) ws := fun H locs ls hP hD hS hl => lv_istore_n F.1.1 F.1.2.1 d rfl hl hn hl' (fun ls' hl2 => k H locs ls' hP hD hS hl2)
theorem x_istore (F : Fx p m c cc nL s args own meth ret D cA A) {i : Nat} {x : Int32} (lv' : List (Nat × Value)) (d : decode cc pc = .ok (.istore i, 2)) (hn : i < nL) (hl' : (i, Value.int x) :: lv.filter (fun q => !(q.1 == i) && !(q.1 + 1 == i && q.2.category == 2)) = lv') (k : Wx p l e R s m args below meth c cells slots Q nL D A (pc + 2) lv' st ws) : Wx p l e R s m args below meth c cells slots Q nL D A pc lv (.int x :: st) ws := fun H locs ls hP hD hS hl => lv_istore F.1.1 F.1.2.1 d hl hn hl' (fun ls' hl2 => k H locs ls' hP hD hS hl2)
theorem x_lstore (F : Fx p m c cc nL s args own meth ret D cA A) {i : Nat} {x : Int64} (lv' : List (Nat × Value)) (d : decode cc pc = .ok (.lstore i, 2)) (hn : i + 1 < nL) (hl' : (i, Value.long x) :: lv.filter (fun q => !(q.1 == i) && (!(q.1 == i + 1) && !(q.1 + 1 == i && q.2.category == 2))) = lv') (k : Wx p l e R s m args below meth c cells slots Q nL D A (pc + 2) lv' st ws) : Wx p l e R s m args below meth c cells slots Q nL D A pc lv (.long x :: st) ws := fun H locs ls hP hD hS hl => lv_lstore F.1.1 F.1.2.1 d hl hn hl' (fun ls' hl2 => k H locs ls' hP hD hS hl2)
theorem x_astore_n (F : Fx p m c cc nL s args own meth ret D cA A) {i : Fin 4} {x : Nat} (lv' : List (Nat × Value)) (d : decode cc pc = .ok (.astore_n i, 1)) (hn : (i : Nat) < nL) (hl' : ((i : Nat), Value.ref x) :: lv.filter (fun q => !(q.1 == (i : Nat)) && !(q.1 + 1 == (i : Nat) && q.2.category == 2)) = lv') (k : Wx p l e R s m args below meth c cells slots Q nL D A (pc + 1) lv' st ws) : Wx p l e R s m args below meth c cells slots Q nL D A pc lv (.ref x :: st) ws := fun H locs ls hP hD hS hl => lv_astore_n F.1.1 F.1.2.1 d rfl hl hn hl' (fun ls' hl2 => k H locs ls' hP hD hS hl2)
theorem x_astore (F : Fx p m c cc nL s args own meth ret D cA A) {i : Nat} {x : Nat} (lv' : List (Nat × Value)) (d : decode cc pc = .ok (.astore i, 2)) (hn : i < nL) (hl' : (i, Value.ref x) :: lv.filter (fun q => !(q.1 == i) && !(q.1 + 1 == i && q.2.category == 2)) = lv') (k : Wx p l e R s m args below meth c cells slots Q nL D A (pc + 2) lv' st ws) : Wx p l e R s m args below meth c cells slots Q nL D A pc lv (.ref x :: st) ws := fun H locs ls hP hD hS hl => lv_astore F.1.1 F.1.2.1 d hl hn hl' (fun ls' hl2 => k H locs ls' hP hD hS hl2)
theorem x_iinc (F : Fx p m c cc nL s args own meth ret D cA A) {i : Nat} {n : Int} {x : Int32} (v : Int32) (j : Nat) (lv' : List (Nat × Value)) (d : decode cc pc = .ok (.iinc i n, 3)) (hk : lv[j]? = some (i, .int x)) (hv : x + Int32.ofInt n = v) (hn : i < nL) (hl' : (i, Value.int v) :: lv.filter (fun q => !(q.1 == i) && !(q.1 + 1 == i && q.2.category == 2)) = lv') (k : Wx p l e R s m args below meth c cells slots Q nL D A (pc + 3) lv' st ws) : Wx p l e R s m args below meth c cells slots Q nL D A pc lv st ws := fun H locs ls hP hD hS hl => lv_iinc F.1.1 F.1.2.1 d hl hk hv hn hl' (fun ls' hl2 => k H locs ls' hP hD hS hl2)
theorem x_lv (lv' : List (Nat × Value)) (js : List Nat) (h : lv_pick lv js = lv') (k : Wx p l e R s m args below meth c cells slots Q nL D A pc lv' st ws) : Wx p l e R s m args below meth c cells slots Q nL D A pc lv st ws := fun H locs ls hP hD hS hl => k H locs ls hP hD hS (lv_sub hl js h)
-- arithmetic
theorem x_iadd (F : Fx p m c cc nL s args own meth ret D cA A) {x y : Int32} (v : Int32) (d : decode cc pc = .ok (.iadd, 1)) (hv : x + y = v) (k : Wx p l e R s m args below meth c cells slots Q nL D A (pc + 1) lv (.int v :: st) ws) : Wx p l e R s m args below meth c cells slots Q nL D A pc lv (.int y :: .int x :: st) ws := fun H locs ls hP hD hS hl => lv_iadd F.1.1 F.1.2.1 d (by rw [hv]; exact k H locs ls hP hD hS hl)
theorem x_isub (F : Fx p m c cc nL s args own meth ret D cA A) {x y : Int32} (v : Int32) (d : decode cc pc = .ok (.isub, 1)) (hv : x - y = v) (k : Wx p l e R s m args below meth c cells slots Q nL D A (pc + 1) lv (.int v :: st) ws) : Wx p l e R s m args below meth c cells slots Q nL D A pc lv (.int y :: .int x :: st) ws := fun H locs ls hP hD hS hl => lv_isub F.1.1 F.1.2.1 d (by rw [hv]; exact k H locs ls hP hD hS hl)
theorem x_imul (F : Fx p m c cc nL s args own meth ret D cA A) {x y : Int32} (v : Int32) (d : decode cc pc = .ok (.imul, 1)) (hv : x * y = v) (k : Wx p l e R s m args below meth c cells slots Q nL D A (pc + 1) lv (.int v :: st) ws) : Wx p l e R s m args below meth c cells slots Q nL D A pc lv (.int y :: .int x :: st) ws := fun H locs ls hP hD hS hl => lv_imul F.1.1 F.1.2.1 d (by rw [hv]; exact k H locs ls hP hD hS hl)
theorem x_iand (F : Fx p m c cc nL s args own meth ret D cA A) {x y : Int32} (v : Int32) (d : decode cc pc = .ok (.iand, 1)) (hv : x &&& y = v) (k : Wx p l e R s m args below meth c cells slots Q nL D A (pc + 1) lv (.int v :: st) ws) : Wx p l e R s m args below meth c cells slots Q nL D A pc lv (.int y :: .int x :: st) ws := fun H locs ls hP hD hS hl => lv_iand F.1.1 F.1.2.1 d (by rw [hv]; exact k H locs ls hP hD hS hl)
theorem x_ior (F : Fx p m c cc nL s args own meth ret D cA A) {x y : Int32} (v : Int32) (d : decode cc pc = .ok (.ior, 1)) (hv : x ||| y = v) (k : Wx p l e R s m args below meth c cells slots Q nL D A (pc + 1) lv (.int v :: st) ws) : Wx p l e R s m args below meth c cells slots Q nL D A pc lv (.int y :: .int x :: st) ws := fun H locs ls hP hD hS hl => lv_ior F.1.1 F.1.2.1 d (by rw [hv]; exact k H locs ls hP hD hS hl)
theorem x_ixor (F : Fx p m c cc nL s args own meth ret D cA A) {x y : Int32} (v : Int32) (d : decode cc pc = .ok (.ixor, 1)) (hv : x ^^^ y = v) (k : Wx p l e R s m args below meth c cells slots Q nL D A (pc + 1) lv (.int v :: st) ws) : Wx p l e R s m args below meth c cells slots Q nL D A pc lv (.int y :: .int x :: st) ws := fun H locs ls hP hD hS hl => lv_ixor F.1.1 F.1.2.1 d (by rw [hv]; exact k H locs ls hP hD hS hl)
theorem x_idiv (F : Fx p m c cc nL s args own meth ret D cA A) {x y : Int32} (v : Int32) (d : decode cc pc = .ok (.idiv, 1)) (hne : ¬ y = 0) (hv : x / y = v) (k : Wx p l e R s m args below meth c cells slots Q nL D A (pc + 1) lv (.int v :: st) ws) : Wx p l e R s m args below meth c cells slots Q nL D A pc lv (.int y :: .int x :: st) ws := fun H locs ls hP hD hS hl => lv_idiv F.1.1 F.1.2.1 d hne (by rw [hv]; exact k H locs ls hP hD hS hl)
theorem x_irem (F : Fx p m c cc nL s args own meth ret D cA A) {x y : Int32} (v : Int32) (d : decode cc pc = .ok (.irem, 1)) (hne : ¬ y = 0) (hv : x - x / y * y = v) (k : Wx p l e R s m args below meth c cells slots Q nL D A (pc + 1) lv (.int v :: st) ws) : Wx p l e R s m args below meth c cells slots Q nL D A pc lv (.int y :: .int x :: st) ws := fun H locs ls hP hD hS hl => lv_irem F.1.1 F.1.2.1 d hne (by rw [hv]; exact k H locs ls hP hD hS hl)
theorem x_ineg (F : Fx p m c cc nL s args own meth ret D cA A) {x : Int32} (v : Int32) (d : decode cc pc = .ok (.ineg, 1)) (hv : 0 - x = v) (k : Wx p l e R s m args below meth c cells slots Q nL D A (pc + 1) lv (.int v :: st) ws) : Wx p l e R s m args below meth c cells slots Q nL D A pc lv (.int x :: st) ws := fun H locs ls hP hD hS hl => lv_ineg F.1.1 F.1.2.1 d (by first | (rw [hv]; exact k H locs ls hP hD hS hl) | (rw [show -x = v from by rw [← hv]; simp]; exact k H locs ls hP hD hS hl))
theorem x_ishl (F : Fx p m c cc nL s args own meth ret D cA A) {x y : Int32} (v : Int32) (d : decode cc pc = .ok (.ishl, 1)) (hv : x <<< (y &&& 31) = v) (k : Wx p l e R s m args below meth c cells slots Q nL D A (pc + 1) lv (.int v :: st) ws) : Wx p l e R s m args below meth c cells slots Q nL D A pc lv (.int y :: .int x :: st) ws := fun H locs ls hP hD hS hl => lv_ishl F.1.1 F.1.2.1 d (by rw [hv]; exact k H locs ls hP hD hS hl)
theorem x_ishr (F : Fx p m c cc nL s args own meth ret D cA A) {x y : Int32} (v : Int32) (d : decode cc pc = .ok (.ishr, 1)) (hv : x >>> (y &&& 31) = v) (k : Wx p l e R s m args below meth c cells slots Q nL D A (pc + 1) lv (.int v :: st) ws) : Wx p l e R s m args below meth c cells slots Q nL D A pc lv (.int y :: .int x :: st) ws := fun H locs ls hP hD hS hl => lv_ishr F.1.1 F.1.2.1 d (by rw [hv]; exact k H locs ls hP hD hS hl)
theorem x_iushr (F : Fx p m c cc nL s args own meth ret D cA A) {x y : Int32} (v : Int32) (d : decode cc pc = .ok (.iushr, 1)) (hv : (x.toUInt32 >>> (y.toUInt32 &&& Int32.toUInt32 31)).toInt32 = v) (k : Wx p l e R s m args below meth c cells slots Q nL D A (pc + 1) lv (.int v :: st) ws) : Wx p l e R s m args below meth c cells slots Q nL D A pc lv (.int y :: .int x :: st) ws := fun H locs ls hP hD hS hl => lv_iushr F.1.1 F.1.2.1 d hv (k H locs ls hP hD hS hl)
theorem x_ladd (F : Fx p m c cc nL s args own meth ret D cA A) {x y : Int64} (v : Int64) (d : decode cc pc = .ok (.ladd, 1)) (hv : x + y = v) (k : Wx p l e R s m args below meth c cells slots Q nL D A (pc + 1) lv (.long v :: st) ws) : Wx p l e R s m args below meth c cells slots Q nL D A pc lv (.long y :: .long x :: st) ws := fun H locs ls hP hD hS hl => lv_ladd F.1.1 F.1.2.1 d (by rw [hv]; exact k H locs ls hP hD hS hl)
theorem x_lshl (F : Fx p m c cc nL s args own meth ret D cA A) {x : Int64} {y : Int32} (v : Int64) (d : decode cc pc = .ok (.lshl, 1)) (hv : x <<< (y.toInt64 &&& 63) = v) (k : Wx p l e R s m args below meth c cells slots Q nL D A (pc + 1) lv (.long v :: st) ws) : Wx p l e R s m args below meth c cells slots Q nL D A pc lv (.int y :: .long x :: st) ws := fun H locs ls hP hD hS hl => lv_lshl F.1.1 F.1.2.1 d hv (k H locs ls hP hD hS hl)
theorem x_lshr (F : Fx p m c cc nL s args own meth ret D cA A) {x : Int64} {y : Int32} (v : Int64) (d : decode cc pc = .ok (.lshr, 1)) (hv : x >>> (y.toInt64 &&& 63) = v) (k : Wx p l e R s m args below meth c cells slots Q nL D A (pc + 1) lv (.long v :: st) ws) : Wx p l e R s m args below meth c cells slots Q nL D A pc lv (.int y :: .long x :: st) ws := fun H locs ls hP hD hS hl => lv_lshr F.1.1 F.1.2.1 d hv (k H locs ls hP hD hS hl)
theorem x_i2l (F : Fx p m c cc nL s args own meth ret D cA A) {x : Int32} (v : Int64) (d : decode cc pc = .ok (.i2l, 1)) (hv : x.toInt64 = v) (k : Wx p l e R s m args below meth c cells slots Q nL D A (pc + 1) lv (.long v :: st) ws) : Wx p l e R s m args below meth c cells slots Q nL D A pc lv (.int x :: st) ws := fun H locs ls hP hD hS hl => lv_i2l F.1.1 F.1.2.1 d hv (k H locs ls hP hD hS hl)
theorem x_l2i (F : Fx p m c cc nL s args own meth ret D cA A) {x : Int64} (v : Int32) (d : decode cc pc = .ok (.l2i, 1)) (hv : x.toInt32 = v) (k : Wx p l e R s m args below meth c cells slots Q nL D A (pc + 1) lv (.int v :: st) ws) : Wx p l e R s m args below meth c cells slots Q nL D A pc lv (.long x :: st) ws := fun H locs ls hP hD hS hl => lv_l2i F.1.1 F.1.2.1 d hv (k H locs ls hP hD hS hl)
theorem x_lcmp (F : Fx p m c cc nL s args own meth ret D cA A) {x y : Int64} (v : Int32) (d : decode cc pc = .ok (.lcmp, 1)) (hv : lg_cmp x y = v) (k : Wx p l e R s m args below meth c cells slots Q nL D A (pc + 1) lv (.int v :: st) ws) : Wx p l e R s m args below meth c cells slots Q nL D A pc lv (.long y :: .long x :: st) ws := fun H locs ls hP hD hS hl => W.lcmp F.1.1 F.1.2.1 d (by rw [hv]; exact k H locs ls hP hD hS hl)
-- stack
theorem x_dup (F : Fx p m c cc nL s args own meth ret D cA A) {va : Value} (d : decode cc pc = .ok (.dup, 1)) (hva : va.category = 1) (k : Wx p l e R s m args below meth c cells slots Q nL D A (pc + 1) lv (va :: va :: st) ws) : Wx p l e R s m args below meth c cells slots Q nL D A pc lv (va :: st) ws := fun H locs ls hP hD hS hl => lv_dup F.1.1 F.1.2.1 d hva (k H locs ls hP hD hS hl)
theorem x_dup2 (F : Fx p m c cc nL s args own meth ret D cA A) {va vb : Value} (d : decode cc pc = .ok (.dup2, 1)) (hva : va.category = 1) (hvb : vb.category = 1) (k : Wx p l e R s m args below meth c cells slots Q nL D A (pc + 1) lv (va :: vb :: va :: vb :: st) ws) : Wx p l e R s m args below meth c cells slots Q nL D A pc lv (va :: vb :: st) ws := fun H locs ls hP hD hS hl => lv_dup2_11 F.1.1 F.1.2.1 d hva hvb (k H locs ls hP hD hS hl)
theorem x_pop (F : Fx p m c cc nL s args own meth ret D cA A) {va : Value} (d : decode cc pc = .ok (.pop, 1)) (hva : va.category = 1) (k : Wx p l e R s m args below meth c cells slots Q nL D A (pc + 1) lv st ws) : Wx p l e R s m args below meth c cells slots Q nL D A pc lv (va :: st) ws := fun H locs ls hP hD hS hl => lv_pop F.1.1 F.1.2.1 d hva (k H locs ls hP hD hS hl)
-- branches
theorem x_goto (F : Fx p m c cc nL s args own meth ret D cA A) {off : Int} (tgt : Nat) (d : decode cc pc = .ok (.goto off, 3)) (ht : (pc : Int) + off = (tgt : Int)) (k : Wx p l e R s m args below meth c cells slots Q nL D A tgt lv st ws) : Wx p l e R s m args below meth c cells slots Q nL D A pc lv st ws := fun H locs ls hP hD hS hl => lv_goto F.1.1 F.1.2.1 d ht (k H locs ls hP hD hS hl)
theorem x_if_eq (F : Fx p m c cc nL s args own meth ret D cA A) {x : Int32} {off : Int} (tgt : Nat) (d : decode cc pc = .ok (.ifCond .eq off, 3)) (ht : (pc : Int) + off = (tgt : Int)) (kt : x = 0 → Wx p l e R s m args below meth c cells slots Q nL D A tgt lv st ws) (kf : ¬ x = 0 → Wx p l e R s m args below meth c cells slots Q nL D A (pc + 3) lv st ws) : Wx p l e R s m args below meth c cells slots Q nL D A pc lv (.int x :: st) ws := fun H locs ls hP hD hS hl => lv_if_eq F.1.1 F.1.2.1 d ht (fun h => kt h H locs ls hP hD hS hl) (fun h => kf h H locs ls hP hD hS hl)
theorem x_icmp_eq (F : Fx p m c cc nL s args own meth ret D cA A) {x y : Int32} {off : Int} (tgt : Nat) (d : decode cc pc = .ok (.if_icmp .eq off, 3)) (ht : (pc : Int) + off = (tgt : Int)) (kt : x = y → Wx p l e R s m args below meth c cells slots Q nL D A tgt lv st ws) (kf : ¬ x = y → Wx p l e R s m args below meth c cells slots Q nL D A (pc + 3) lv st ws) : Wx p l e R s m args below meth c cells slots Q nL D A pc lv (.int y :: .int x :: st) ws := fun H locs ls hP hD hS hl => lv_icmp_eq F.1.1 F.1.2.1 d ht (fun h => kt h H locs ls hP hD hS hl) (fun h => kf h H locs ls hP hD hS hl)
theorem x_if_ne (F : Fx p m c cc nL s args own meth ret D cA A) {x : Int32} {off : Int} (tgt : Nat) (d : decode cc pc = .ok (.ifCond .ne off, 3)) (ht : (pc : Int) + off = (tgt : Int)) (kt : ¬ x = 0 → Wx p l e R s m args below meth c cells slots Q nL D A tgt lv st ws) (kf : x = 0 → Wx p l e R s m args below meth c cells slots Q nL D A (pc + 3) lv st ws) : Wx p l e R s m args below meth c cells slots Q nL D A pc lv (.int x :: st) ws := fun H locs ls hP hD hS hl => lv_if_ne F.1.1 F.1.2.1 d ht (fun h => kt h H locs ls hP hD hS hl) (fun h => kf h H locs ls hP hD hS hl)
theorem x_icmp_ne (F : Fx p m c cc nL s args own meth ret D cA A) {x y : Int32} {off : Int} (tgt : Nat) (d : decode cc pc = .ok (.if_icmp .ne off, 3)) (ht : (pc : Int) + off = (tgt : Int)) (kt : ¬ x = y → Wx p l e R s m args below meth c cells slots Q nL D A tgt lv st ws) (kf : x = y → Wx p l e R s m args below meth c cells slots Q nL D A (pc + 3) lv st ws) : Wx p l e R s m args below meth c cells slots Q nL D A pc lv (.int y :: .int x :: st) ws := fun H locs ls hP hD hS hl => lv_icmp_ne F.1.1 F.1.2.1 d ht (fun h => kt h H locs ls hP hD hS hl) (fun h => kf h H locs ls hP hD hS hl)
theorem x_if_lt (F : Fx p m c cc nL s args own meth ret D cA A) {x : Int32} {off : Int} (tgt : Nat) (d : decode cc pc = .ok (.ifCond .lt off, 3)) (ht : (pc : Int) + off = (tgt : Int)) (kt : x < 0 → Wx p l e R s m args below meth c cells slots Q nL D A tgt lv st ws) (kf : ¬ x < 0 → Wx p l e R s m args below meth c cells slots Q nL D A (pc + 3) lv st ws) : Wx p l e R s m args below meth c cells slots Q nL D A pc lv (.int x :: st) ws := fun H locs ls hP hD hS hl => lv_if_lt F.1.1 F.1.2.1 d ht (fun h => kt h H locs ls hP hD hS hl) (fun h => kf h H locs ls hP hD hS hl)
theorem x_icmp_lt (F : Fx p m c cc nL s args own meth ret D cA A) {x y : Int32} {off : Int} (tgt : Nat) (d : decode cc pc = .ok (.if_icmp .lt off, 3)) (ht : (pc : Int) + off = (tgt : Int)) (kt : x < y → Wx p l e R s m args below meth c cells slots Q nL D A tgt lv st ws) (kf : ¬ x < y → Wx p l e R s m args below meth c cells slots Q nL D A (pc + 3) lv st ws) : Wx p l e R s m args below meth c cells slots Q nL D A pc lv (.int y :: .int x :: st) ws := fun H locs ls hP hD hS hl => lv_icmp_lt F.1.1 F.1.2.1 d ht (fun h => kt h H locs ls hP hD hS hl) (fun h => kf h H locs ls hP hD hS hl)
theorem x_if_ge (F : Fx p m c cc nL s args own meth ret D cA A) {x : Int32} {off : Int} (tgt : Nat) (d : decode cc pc = .ok (.ifCond .ge off, 3)) (ht : (pc : Int) + off = (tgt : Int)) (kt : 0 ≤ x → Wx p l e R s m args below meth c cells slots Q nL D A tgt lv st ws) (kf : ¬ 0 ≤ x → Wx p l e R s m args below meth c cells slots Q nL D A (pc + 3) lv st ws) : Wx p l e R s m args below meth c cells slots Q nL D A pc lv (.int x :: st) ws := fun H locs ls hP hD hS hl => lv_if_ge F.1.1 F.1.2.1 d ht (fun h => kt h H locs ls hP hD hS hl) (fun h => kf h H locs ls hP hD hS hl)
theorem x_icmp_ge (F : Fx p m c cc nL s args own meth ret D cA A) {x y : Int32} {off : Int} (tgt : Nat) (d : decode cc pc = .ok (.if_icmp .ge off, 3)) (ht : (pc : Int) + off = (tgt : Int)) (kt : y ≤ x → Wx p l e R s m args below meth c cells slots Q nL D A tgt lv st ws) (kf : ¬ y ≤ x → Wx p l e R s m args below meth c cells slots Q nL D A (pc + 3) lv st ws) : Wx p l e R s m args below meth c cells slots Q nL D A pc lv (.int y :: .int x :: st) ws := fun H locs ls hP hD hS hl => lv_icmp_ge F.1.1 F.1.2.1 d ht (fun h => kt h H locs ls hP hD hS hl) (fun h => kf h H locs ls hP hD hS hl)
theorem x_if_gt (F : Fx p m c cc nL s args own meth ret D cA A) {x : Int32} {off : Int} (tgt : Nat) (d : decode cc pc = .ok (.ifCond .gt off, 3)) (ht : (pc : Int) + off = (tgt : Int)) (kt : 0 < x → Wx p l e R s m args below meth c cells slots Q nL D A tgt lv st ws) (kf : ¬ 0 < x → Wx p l e R s m args below meth c cells slots Q nL D A (pc + 3) lv st ws) : Wx p l e R s m args below meth c cells slots Q nL D A pc lv (.int x :: st) ws := fun H locs ls hP hD hS hl => lv_if_gt F.1.1 F.1.2.1 d ht (fun h => kt h H locs ls hP hD hS hl) (fun h => kf h H locs ls hP hD hS hl)
theorem x_icmp_gt (F : Fx p m c cc nL s args own meth ret D cA A) {x y : Int32} {off : Int} (tgt : Nat) (d : decode cc pc = .ok (.if_icmp .gt off, 3)) (ht : (pc : Int) + off = (tgt : Int)) (kt : y < x → Wx p l e R s m args below meth c cells slots Q nL D A tgt lv st ws) (kf : ¬ y < x → Wx p l e R s m args below meth c cells slots Q nL D A (pc + 3) lv st ws) : Wx p l e R s m args below meth c cells slots Q nL D A pc lv (.int y :: .int x :: st) ws := fun H locs ls hP hD hS hl => lv_icmp_gt F.1.1 F.1.2.1 d ht (fun h => kt h H locs ls hP hD hS hl) (fun h => kf h H locs ls hP hD hS hl)
theorem x_if_le (F : Fx p m c cc nL s args own meth ret D cA A) {x : Int32} {off : Int} (tgt : Nat) (d : decode cc pc = .ok (.ifCond .le off, 3)) (ht : (pc : Int) + off = (tgt : Int)) (kt : x ≤ 0 → Wx p l e R s m args below meth c cells slots Q nL D A tgt lv st ws) (kf : ¬ x ≤ 0 → Wx p l e R s m args below meth c cells slots Q nL D A (pc + 3) lv st ws) : Wx p l e R s m args below meth c cells slots Q nL D A pc lv (.int x :: st) ws := fun H locs ls hP hD hS hl => lv_if_le F.1.1 F.1.2.1 d ht (fun h => kt h H locs ls hP hD hS hl) (fun h => kf h H locs ls hP hD hS hl)
theorem x_icmp_le (F : Fx p m c cc nL s args own meth ret D cA A) {x y : Int32} {off : Int} (tgt : Nat) (d : decode cc pc = .ok (.if_icmp .le off, 3)) (ht : (pc : Int) + off = (tgt : Int)) (kt : x ≤ y → Wx p l e R s m args below meth c cells slots Q nL D A tgt lv st ws) (kf : ¬ x ≤ y → Wx p l e R s m args below meth c cells slots Q nL D A (pc + 3) lv st ws) : Wx p l e R s m args below meth c cells slots Q nL D A pc lv (.int y :: .int x :: st) ws := fun H locs ls hP hD hS hl => lv_icmp_le F.1.1 F.1.2.1 d ht (fun h => kt h H locs ls hP hD hS hl) (fun h => kf h H locs ls hP hD hS hl)
theorem x_ifnull_r (F : Fx p m c cc nL s args own meth ret D cA A) {x : Nat} {off : Int} (d : decode cc pc = .ok (.ifnull off, 3)) (k : Wx p l e R s m args below meth c cells slots Q nL D A (pc + 3) lv st ws) : Wx p l e R s m args below meth c cells slots Q nL D A pc lv (.ref x :: st) ws := fun H locs ls hP hD hS hl => lv_ifnull F.1.1 F.1.2.1 d (k H locs ls hP hD hS hl)
theorem x_ifnull_n (F : Fx p m c cc nL s args own meth ret D cA A) {off : Int} (tgt : Nat) (d : decode cc pc = .ok (.ifnull off, 3)) (ht : (pc : Int) + off = (tgt : Int)) (k : Wx p l e R s m args below meth c cells slots Q nL D A tgt lv st ws) : Wx p l e R s m args below meth c cells slots Q nL D A pc lv (.null :: st) ws := fun H locs ls hP hD hS hl => lv_ifnullN F.1.1 F.1.2.1 d ht (k H locs ls hP hD hS hl)
theorem x_ifnonnull_r (F : Fx p m c cc nL s args own meth ret D cA A) {x : Nat} {off : Int} (tgt : Nat) (d : decode cc pc = .ok (.ifnonnull off, 3)) (ht : (pc : Int) + off = (tgt : Int)) (k : Wx p l e R s m args below meth c cells slots Q nL D A tgt lv st ws) : Wx p l e R s m args below meth c cells slots Q nL D A pc lv (.ref x :: st) ws := fun H locs ls hP hD hS hl => lv_ifnonnull F.1.1 F.1.2.1 d ht (k H locs ls hP hD hS hl)
theorem x_ifnonnull_n (F : Fx p m c cc nL s args own meth ret D cA A) {off : Int} (d : decode cc pc = .ok (.ifnonnull off, 3)) (k : Wx p l e R s m args below meth c cells slots Q nL D A (pc + 3) lv st ws) : Wx p l e R s m args below meth c cells slots Q nL D A pc lv (.null :: st) ws := fun H locs ls hP hD hS hl => lv_ifnonnullN F.1.1 F.1.2.1 d (k H locs ls hP hD hS hl)
theorem x_tableIn (F : Fx p m c cc nL s args own meth ret D cA A) {dflt lo hi : Int} {offs : Array Int} {len : Nat} {x : Int32} {off : Int} (tgt : Nat) (d : decode cc pc = .ok (.tableswitch dflt lo hi offs, len)) (h1 : ¬ x.toInt < lo) (h2 : ¬ hi < x.toInt) (ho : offs[(x.toInt - lo).toNat]? = some off) (ht : (pc : Int) + off = (tgt : Int)) (k : Wx p l e R s m args below meth c cells slots Q nL D A tgt lv st ws) : Wx p l e R s m args below meth c cells slots Q nL D A pc lv (.int x :: st) ws := fun H locs ls hP hD hS hl => lv_tableIn F.1.1 F.1.2.1 d h1 h2 ho ht (k H locs ls hP hD hS hl)
theorem x_tableOut (F : Fx p m c cc nL s args own meth ret D cA A) {dflt lo hi : Int} {offs : Array Int} {len : Nat} {x : Int32} (tgt : Nat) (d : decode cc pc = .ok (.tableswitch dflt lo hi offs, len)) (h : x.toInt < lo ∨ hi < x.toInt) (ht : (pc : Int) + dflt = (tgt : Int)) (k : Wx p l e R s m args below meth c cells slots Q nL D A tgt lv st ws) : Wx p l e R s m args below meth c cells slots Q nL D A pc lv (.int x :: st) ws := fun H locs ls hP hD hS hl => lv_tableOut F.1.1 F.1.2.1 d h ht (k H locs ls hP hD hS hl)
-- fields
theorem x_get (F : Fx p m c cc nL s args own meth ret D cA A) {C : String} {T : u_T} {N ci index : Nat} {a : Nat} {fs : List Value} {v : Value} (hin : ∀ w ∈ u_ws C T N, w ∈ T0) (q0 k : Nat) (he : ws[q0]? = some (a, .inr (ci, fs))) (hc : vwCl[ci]? = some (C, T, N)) (hk : k < N) (hlink : Cond.fieldLink own index (T k).1 (T k).2.1 (T k).2.2.1 ∈ T0) (hv : fs[k]? = some v) (d : decode cc pc = .ok (.getfield index, 3)) (kk : Wx p l e R s m args below meth c cells slots Q nL D A (pc + 3) lv (v :: st) ws) : Wx p l e R s m args below meth c cells slots Q nL D A pc lv (.ref a :: st) ws := fun H locs ls hP hD hS hl => va_get F.1.1 F.1.2.1 F.1.2.2.2.2 hin F.1.2.2.2.1 F.2.1.1 hP q0 he hc k hk (F.1.2.2.2.2 _ hlink) (fun _ h => h) hv d (kk H locs ls hP hD hS hl)
theorem x_put (F : Fx p m c cc nL s args own meth ret D cA A) {C : String} {T : u_T} {N ci index : Nat} {a : Nat} {fs : List Value} {v : Value} {ty0 : Nat → FieldType} {ty : FieldType} (hin : ∀ w ∈ u_ws C T N, w ∈ T0) (hty : ∀ k, k < N → parseFieldDescriptor (T k).2.2.1 = some (ty0 k)) (hnm : ∀ a, a < N → ∀ b, b < N → a ≠ b → (T a).2.1 ≠ (T b).2.1) (q0 k : Nat) (ws' : va_W) (he : ws[q0]? = some (a, .inr (ci, fs))) (hc : vwCl[ci]? = some (C, T, N)) (hk : k < N) (hlink : Cond.fieldLink own index (T k).1 (T k).2.1 (T k).2.2.1 ∈ T0) (hfin : (T k).2.2.2 = false) (hd : ty0 k = ty) (hn : narrow ty v = v) (hfit : fits ty v = true) (hlen : k < fs.length) (hset : ws.set q0 (a, .inr (ci, fs.set k v)) = ws') (d : decode cc pc = .ok (.putfield index, 3)) (kk : Wx p l e R s m args below meth c cells slots Q nL D A (pc + 3) lv st ws') : Wx p l e R s m args below meth c cells slots Q nL D A pc lv (v :: .ref a :: st) ws := fun H locs ls hP hD hS hl => va_put F.1.1 F.1.2.1 F.1.2.2.2.2 hin ty0 hty hnm F.1.2.2.2.1 F.2.1.1 hP hD hS q0 he hc k hk (F.1.2.2.2.2 _ hlink) (fun _ h => h) hfin (by rw [hty k hk, hd]) hn hfit hlen d (fun H1 locs1 hP1 hD1 hS1 => kk H1 locs1 ls (hset ▸ hP1) (hset ▸ hD1) hS1 hl)
theorem x_putF (F : Fx p m c cc nL s args own meth ret D cA A) (hin2 : meth.name = "<init>") {C : String} {T : u_T} {N ci index : Nat} {a : Nat} {fs : List Value} {v : Value} {ty0 : Nat → FieldType} {ty : FieldType} (hin : ∀ w ∈ u_ws C T N, w ∈ T0) (hty : ∀ k, k < N → parseFieldDescriptor (T k).2.2.1 = some (ty0 k)) (hnm : ∀ a, a < N → ∀ b, b < N → a ≠ b → (T a).2.1 ≠ (T b).2.1) (q0 k : Nat) (ws' : va_W) (he : ws[q0]? = some (a, .inr (ci, fs))) (hc : vwCl[ci]? = some (C, T, N)) (hk : k < N) (hlink : Cond.fieldLink own index (T k).1 (T k).2.1 (T k).2.2.1 ∈ T0) (hdecl : (T k).1 = own) (hfin : (T k).2.2.2 = true) (hd : ty0 k = ty) (hn : narrow ty v = v) (hfit : fits ty v = true) (hlen : k < fs.length) (hset : ws.set q0 (a, .inr (ci, fs.set k v)) = ws') (d : decode cc pc = .ok (.putfield index, 3)) (kk : Wx p l e R s m args below meth c cells slots Q nL D A (pc + 3) lv st ws') : Wx p l e R s m args below meth c cells slots Q nL D A pc lv (v :: .ref a :: st) ws := fun H locs ls hP hD hS hl => va_putF F.1.1 F.1.2.1 F.1.2.2.2.2 hin ty0 hty hnm F.1.2.2.2.1 F.2.1.1 hP hD hS q0 he hc k hk (F.1.2.2.2.2 _ hlink) (fun _ h => h) hfin hin2 hdecl (by rw [hty k hk, hd]) hn hfit hlen d (fun H1 locs1 hP1 hD1 hS1 => kk H1 locs1 ls (hset ▸ hP1) (hset ▸ hD1) hS1 hl)
-- arrays, at a place that is a Nat
theorem x_iald (F : Fx p m c cc nL s args own meth ret D cA A) (q0 : Nat) {a n k : Nat} {f : Nat → Int32} (ha : ws[q0]? = some (a, .inl (cA 0, n, .inl f))) (hk : k < n) (hn : n < 2 ^ 31) (d : decode cc pc = .ok (.iaload, 1)) (kk : Wx p l e R s m args below meth c cells slots Q nL D A (pc + 1) lv (.int (f k) :: st) ws) : Wx p l e R s m args below meth c cells slots Q nL D A pc lv (.int (nI k) :: .ref a :: st) ws := fun H locs ls hP hD hS hl => va_iald F.1.1 F.1.2.1 F.2.1.1 hP q0 0 ha rfl (vp_in_nI hk hn) d (by rw [nI_clamp (by omega)]; exact kk H locs ls hP hD hS hl)
theorem x_zald (F : Fx p m c cc nL s args own meth ret D cA A) (q0 : Nat) {a n k : Nat} {f : Nat → Int32} (ha : ws[q0]? = some (a, .inl (cA 2, n, .inl f))) (hk : k < n) (hn : n < 2 ^ 31) (d : decode cc pc = .ok (.baload, 1)) (kk : Wx p l e R s m args below meth c cells slots Q nL D A (pc + 1) lv (.int (f k) :: st) ws) : Wx p l e R s m args below meth c cells slots Q nL D A pc lv (.int (nI k) :: .ref a :: st) ws := fun H locs ls hP hD hS hl => va_zald F.1.1 F.1.2.1 F.2.1.1 hP q0 2 ha rfl (vp_in_nI hk hn) d (by rw [nI_clamp (by omega)]; exact kk H locs ls hP hD hS hl)
theorem x_lald (F : Fx p m c cc nL s args own meth ret D cA A) (q0 : Nat) {a n k : Nat} {f : Nat → Int64} (ha : ws[q0]? = some (a, .inl (cA 1, n, .inr (.inl f)))) (hk : k < n) (hn : n < 2 ^ 31) (d : decode cc pc = .ok (.laload, 1)) (kk : Wx p l e R s m args below meth c cells slots Q nL D A (pc + 1) lv (.long (f k) :: st) ws) : Wx p l e R s m args below meth c cells slots Q nL D A pc lv (.int (nI k) :: .ref a :: st) ws := fun H locs ls hP hD hS hl => va_lald F.1.1 F.1.2.1 F.2.1.1 hP q0 1 ha rfl (vp_in_nI hk hn) d (by rw [nI_clamp (by omega)]; exact kk H locs ls hP hD hS hl)
theorem x_aald3 (F : Fx p m c cc nL s args own meth ret D cA A) (q0 : Nat) {a n k : Nat} {f : Nat → Option Nat} (ha : ws[q0]? = some (a, .inl (cA 3, n, .inr (.inr (.inr (.inr f)))))) (hk : k < n) (hn : n < 2 ^ 31) (d : decode cc pc = .ok (.aaload, 1)) (kk : Wx p l e R s m args below meth c cells slots Q nL D A (pc + 1) lv (va_rf (f k) :: st) ws) : Wx p l e R s m args below meth c cells slots Q nL D A pc lv (.int (nI k) :: .ref a :: st) ws := fun H locs ls hP hD hS hl => va_aldq F.1.1 F.1.2.1 F.2.1.1 hP q0 3 ha rfl (vp_in_nI hk hn) d (by rw [nI_clamp (by omega)]; exact kk H locs ls hP hD hS hl)
theorem x_aald4 (F : Fx p m c cc nL s args own meth ret D cA A) (q0 : Nat) {a n k : Nat} {f : Nat → Option Nat} (ha : ws[q0]? = some (a, .inl (cA 4, n, .inr (.inr (.inr (.inr f)))))) (hk : k < n) (hn : n < 2 ^ 31) (d : decode cc pc = .ok (.aaload, 1)) (kk : Wx p l e R s m args below meth c cells slots Q nL D A (pc + 1) lv (va_rf (f k) :: st) ws) : Wx p l e R s m args below meth c cells slots Q nL D A pc lv (.int (nI k) :: .ref a :: st) ws := fun H locs ls hP hD hS hl => va_aldq F.1.1 F.1.2.1 F.2.1.1 hP q0 4 ha rfl (vp_in_nI hk hn) d (by rw [nI_clamp (by omega)]; exact kk H locs ls hP hD hS hl)
theorem x_iast (F : Fx p m c cc nL s args own meth ret D cA A) (q0 : Nat) {a n k : Nat} {x : Int32} {f : Nat → Int32} (ws' : va_W) (ha : ws[q0]? = some (a, .inl (cA 0, n, .inl f))) (hk : k < n) (hn : n < 2 ^ 31) (hset : ws.set q0 (a, .inl (cA 0, n, .inl (upd f k x))) = ws') (d : decode cc pc = .ok (.iastore, 1)) (kk : Wx p l e R s m args below meth c cells slots Q nL D A (pc + 1) lv st ws') : Wx p l e R s m args below meth c cells slots Q nL D A pc lv (.int x :: .int (nI k) :: .ref a :: st) ws := by
  intro H locs ls hP hD hS hl
  refine va_iast F.1.1 F.1.2.1 F.2.1.1 hP hD hS q0 0 ha rfl (vp_in_nI hk hn) d (fun H1 locs1 hP1 hD1 hS1 => ?_)
  rw [nI_clamp (by omega), hset] at hP1 hD1
  exact kk H1 locs1 ls hP1 hD1 hS1 hl
theorem x_zast (F : Fx p m c cc nL s args own meth ret D cA A) (q0 : Nat) {a n k : Nat} {x : Int32} {f : Nat → Int32} (ws' : va_W) (ha : ws[q0]? = some (a, .inl (cA 2, n, .inl f))) (hk : k < n) (hn : n < 2 ^ 31) (hx : vp_nar .boolean x = x) (hset : ws.set q0 (a, .inl (cA 2, n, .inl (upd f k x))) = ws') (d : decode cc pc = .ok (.bastore, 1)) (kk : Wx p l e R s m args below meth c cells slots Q nL D A (pc + 1) lv st ws') : Wx p l e R s m args below meth c cells slots Q nL D A pc lv (.int x :: .int (nI k) :: .ref a :: st) ws := by
  intro H locs ls hP hD hS hl
  refine va_zast F.1.1 F.1.2.1 F.2.1.1 hP hD hS q0 2 ha rfl (vp_in_nI hk hn) d (fun H1 locs1 hP1 hD1 hS1 => ?_)
  rw [nI_clamp (by omega), hx, hset] at hP1 hD1
  exact kk H1 locs1 ls hP1 hD1 hS1 hl
theorem x_last (F : Fx p m c cc nL s args own meth ret D cA A) (q0 : Nat) {a n k : Nat} {x : Int64} {f : Nat → Int64} (ws' : va_W) (ha : ws[q0]? = some (a, .inl (cA 1, n, .inr (.inl f)))) (hk : k < n) (hn : n < 2 ^ 31) (hset : ws.set q0 (a, .inl (cA 1, n, .inr (.inl (vp_updL f k x)))) = ws') (d : decode cc pc = .ok (.lastore, 1)) (kk : Wx p l e R s m args below meth c cells slots Q nL D A (pc + 1) lv st ws') : Wx p l e R s m args below meth c cells slots Q nL D A pc lv (.long x :: .int (nI k) :: .ref a :: st) ws := by
  intro H locs ls hP hD hS hl
  refine va_last F.1.1 F.1.2.1 F.2.1.1 hP hD hS q0 1 ha rfl (vp_in_nI hk hn) d (fun H1 locs1 hP1 hD1 hS1 => ?_)
  rw [nI_clamp (by omega), hset] at hP1 hD1
  exact kk H1 locs1 ls hP1 hD1 hS1 hl
theorem x_aast3 (F : Fx p m c cc nL s args own meth ret D cA A) (q0 qk : Nat) {a n k v : Nat} {vs : List Value} {f : Nat → Option Nat} (ws' : va_W) (ha : ws[q0]? = some (a, .inl (cA 3, n, .inr (.inr (.inr (.inr f)))))) (hv : ws[qk]? = some (v, .inr (2, vs))) (hk : k < n) (hn : n < 2 ^ 31) (hset : ws.set q0 (a, .inl (cA 3, n, .inr (.inr (.inr (.inr (va_up f k (some v))))))) = ws') (d : decode cc pc = .ok (.aastore, 1)) (kk : Wx p l e R s m args below meth c cells slots Q nL D A (pc + 1) lv st ws') : Wx p l e R s m args below meth c cells slots Q nL D A pc lv (.ref v :: .int (nI k) :: .ref a :: st) ws := by
  intro H locs ls hP hD hS hl
  refine va_astq F.1.1 F.1.2.1 F.2.1.1 hP hD hS q0 3 qk 2 (r := (RX2, TX2, 4)) ha rfl hv rfl (vp_in_nI hk hn) d (fun H1 locs1 hP1 hD1 hS1 => ?_)
  rw [nI_clamp (by omega), hset] at hP1 hD1
  exact kk H1 locs1 ls hP1 hD1 hS1 hl
theorem x_aast4 (F : Fx p m c cc nL s args own meth ret D cA A) (q0 qk : Nat) {a n k v : Nat} {vs : List Value} {f : Nat → Option Nat} (ws' : va_W) (ha : ws[q0]? = some (a, .inl (cA 4, n, .inr (.inr (.inr (.inr f)))))) (hv : ws[qk]? = some (v, .inr (3, vs))) (hk : k < n) (hn : n < 2 ^ 31) (hset : ws.set q0 (a, .inl (cA 4, n, .inr (.inr (.inr (.inr (va_up f k (some v))))))) = ws') (d : decode cc pc = .ok (.aastore, 1)) (kk : Wx p l e R s m args below meth c cells slots Q nL D A (pc + 1) lv st ws') : Wx p l e R s m args below meth c cells slots Q nL D A pc lv (.ref v :: .int (nI k) :: .ref a :: st) ws := by
  intro H locs ls hP hD hS hl
  refine va_astq F.1.1 F.1.2.1 F.2.1.1 hP hD hS q0 4 qk 3 (r := (RX3, TX3, 12)) ha rfl hv rfl (vp_in_nI hk hn) d (fun H1 locs1 hP1 hD1 hS1 => ?_)
  rw [nI_clamp (by omega), hset] at hP1 hD1
  exact kk H1 locs1 ls hP1 hD1 hS1 hl
theorem x_alen (F : Fx p m c cc nL s args own meth ret D cA A) (q0 t0 : Nat) {a : Nat} {cB : ClassId} {x : vp_A} {ty : FieldType} (ha : ws[q0]? = some (a, .inl (cB, x))) (ht : (xt cA)[t0]? = some (cB, ty)) (v : Int32) (hv : Int32.ofNat x.1 = v) (d : decode cc pc = .ok (.arraylength, 1)) (kk : Wx p l e R s m args below meth c cells slots Q nL D A (pc + 1) lv (.int v :: st) ws) : Wx p l e R s m args below meth c cells slots Q nL D A pc lv (.ref a :: st) ws := fun H locs ls hP hD hS hl => va_alen F.1.1 F.1.2.1 F.2.1.1 hP q0 t0 ha ht hv d (kk H locs ls hP hD hS hl)
theorem xt_RA {U : State} {cB cC : ClassId} {t : FieldType} (ht : ∀ C, t ≠ .object C) (h1 : va_RA U cB t) (h2 : va_RA U cC t) : cB = cC := by
  cases t with
  | object C => exact absurd rfl (ht C)
  | _ => exact Option.some.inj (h1.symm.trans h2)
theorem xt_RO {U : State} {cB cC : ClassId} {C : String} (h1 : va_RA U cB (.object C)) (h2 : va_RA U cC (.object C)) : cB = cC := by
  obtain ⟨_, _, _, _, _, e1⟩ := h1
  obtain ⟨_, _, _, _, _, e2⟩ := h2
  exact Option.some.inj (e1.symm.trans e2)
theorem x_newI (F : Fx p m c cc nL s args own meth ret D cA A) {k : Nat} (harr : Cond.arrayClass .int ∈ T0) (hk : k < 2 ^ 20) (hcells : cells + 1 ≤ R.cells) (hslots : slots + k ≤ R.slots) (d : decode cc pc = .ok (.newarray .int, 2)) (kk : ∀ q : Nat, Wx p l e R s m args below meth c (cells + 1) (slots + k) Q nL D A (pc + 2) lv (.ref q :: st) (ws ++ [(q, .inl (cA 0, k, .inl (fun _ => 0)))])) : Wx p l e R s m args below meth c cells slots Q nL D A pc lv (.int (nI k) :: st) ws := by
  intro H locs ls hP hD hS hl
  refine va_newa (atype := .int) (a0 := (k, .inl (fun _ => 0))) F.1.1 F.1.2.1 (F.1.2.2.2.2 _ harr) rfl F.2.1.1 hP hD hS F.2.2.1 (fun cB => rfl) (nI_pos (by omega)) (nI_clamp (by omega)) (by show k * 4 ≤ _; omega) hcells hslots d (fun q cB H1 hK1 hP1 hD1 hS1 => ?_)
  have e := xt_RA (by intro C h; cases h) (hK1.2 5 _ rfl).2 (F.2.1.1.2 0 _ rfl).2
  subst e
  exact kk q H1 locs ls hP1 hD1 hS1 hl
theorem x_newZ (F : Fx p m c cc nL s args own meth ret D cA A) {k : Nat} (harr : Cond.arrayClass .boolean ∈ T0) (hk : k < 2 ^ 20) (hcells : cells + 1 ≤ R.cells) (hslots : slots + k ≤ R.slots) (d : decode cc pc = .ok (.newarray .boolean, 2)) (kk : ∀ q : Nat, Wx p l e R s m args below meth c (cells + 1) (slots + k) Q nL D A (pc + 2) lv (.ref q :: st) (ws ++ [(q, .inl (cA 2, k, .inl (fun _ => 0)))])) : Wx p l e R s m args below meth c cells slots Q nL D A pc lv (.int (nI k) :: st) ws := by
  intro H locs ls hP hD hS hl
  refine va_newa (atype := .boolean) (a0 := (k, .inl (fun _ => 0))) F.1.1 F.1.2.1 (F.1.2.2.2.2 _ harr) rfl F.2.1.1 hP hD hS F.2.2.1 (fun cB => rfl) (nI_pos (by omega)) (nI_clamp (by omega)) (by show k * 1 ≤ _; omega) hcells hslots d (fun q cB H1 hK1 hP1 hD1 hS1 => ?_)
  have e := xt_RA (by intro C h; cases h) (hK1.2 5 _ rfl).2 (F.2.1.1.2 2 _ rfl).2
  subst e
  exact kk q H1 locs ls hP1 hD1 hS1 hl
theorem x_newJ (F : Fx p m c cc nL s args own meth ret D cA A) {k : Nat} (harr : Cond.arrayClass .long ∈ T0) (hk : k < 2 ^ 20) (hcells : cells + 1 ≤ R.cells) (hslots : slots + k ≤ R.slots) (d : decode cc pc = .ok (.newarray .long, 2)) (kk : ∀ q : Nat, Wx p l e R s m args below meth c (cells + 1) (slots + k) Q nL D A (pc + 2) lv (.ref q :: st) (ws ++ [(q, .inl (cA 1, k, .inr (.inl (fun _ => 0))))])) : Wx p l e R s m args below meth c cells slots Q nL D A pc lv (.int (nI k) :: st) ws := by
  intro H locs ls hP hD hS hl
  refine va_newa (atype := .long) (a0 := (k, .inr (.inl (fun _ => 0)))) F.1.1 F.1.2.1 (F.1.2.2.2.2 _ harr) rfl F.2.1.1 hP hD hS F.2.2.1 (fun cB => rfl) (nI_pos (by omega)) (nI_clamp (by omega)) (by show k * 8 ≤ _; omega) hcells hslots d (fun q cB H1 hK1 hP1 hD1 hS1 => ?_)
  have e := xt_RA (by intro C h; cases h) (hK1.2 5 _ rfl).2 (F.2.1.1.2 1 _ rfl).2
  subst e
  exact kk q H1 locs ls hP1 hD1 hS1 hl
theorem x_newQ3 (F : Fx p m c cc nL s args own meth ret D cA A) {k index : Nat} (hcl : Cond.classLink own index "LiveChanges$Mark" ∈ T0) (hk : k < 2 ^ 20) (hcells : cells + 1 ≤ R.cells) (hslots : slots + k ≤ R.slots) (d : decode cc pc = .ok (.anewarray index, 3)) (kk : ∀ q : Nat, Wx p l e R s m args below meth c (cells + 1) (slots + k) Q nL D A (pc + 3) lv (.ref q :: st) (ws ++ [(q, .inl (cA 3, k, .inr (.inr (.inr (.inr (fun _ => none))))))])) : Wx p l e R s m args below meth c cells slots Q nL D A pc lv (.int (nI k) :: st) ws := by
  intro H locs ls hP hD hS hl
  refine va_newq F.1.1 F.1.2.1 F.1.2.2.2.1 (F.1.2.2.2.2 _ hcl) F.2.1.2.2.1 F.2.1.1 hP hD hS F.2.2.1 (nI_pos (by omega)) (nI_clamp (by omega)) (by omega) hcells hslots d (fun q cB H1 hK1 hP1 hD1 hS1 => ?_)
  have e := xt_RO (hK1.2 5 _ rfl).2 (F.2.1.1.2 3 _ rfl).2
  subst e
  exact kk q H1 locs ls hP1 hD1 hS1 hl
theorem x_newQ4 (F : Fx p m c cc nL s args own meth ret D cA A) {k index : Nat} (hcl : Cond.classLink own index "LiveChanges$Solve" ∈ T0) (hk : k < 2 ^ 20) (hcells : cells + 1 ≤ R.cells) (hslots : slots + k ≤ R.slots) (d : decode cc pc = .ok (.anewarray index, 3)) (kk : ∀ q : Nat, Wx p l e R s m args below meth c (cells + 1) (slots + k) Q nL D A (pc + 3) lv (.ref q :: st) (ws ++ [(q, .inl (cA 4, k, .inr (.inr (.inr (.inr (fun _ => none))))))])) : Wx p l e R s m args below meth c cells slots Q nL D A pc lv (.int (nI k) :: st) ws := by
  intro H locs ls hP hD hS hl
  refine va_newq F.1.1 F.1.2.1 F.1.2.2.2.1 (F.1.2.2.2.2 _ hcl) F.2.1.2.2.2 F.2.1.1 hP hD hS F.2.2.1 (nI_pos (by omega)) (nI_clamp (by omega)) (by omega) hcells hslots d (fun q cB H1 hK1 hP1 hD1 hS1 => ?_)
  have e := xt_RO (hK1.2 5 _ rfl).2 (F.2.1.1.2 4 _ rfl).2
  subst e
  exact kk q H1 locs ls hP1 hD1 hS1 hl
theorem x_new (F : Fx p m c cc nL s args own meth ret D cA A) {C : String} {T : u_T} {N ci index : Nat} {ty : Nat → FieldType} (fs : List Value) (hin : ∀ w ∈ u_ws C T N, w ∈ T0) (hty : ∀ k, k < N → parseFieldDescriptor (T k).2.2.1 = some (ty k)) (hcl : Cond.classLink own index C ∈ T0) (hinst : Cond.instantiable C N ∈ T0) (hini : Cond.initialized C ∈ T0) (hc : vwCl[ci]? = some (C, T, N)) (hfs : ∀ j, j < N → defaultValue (ty j) = vp_V fs j) (hcells : cells + 1 ≤ R.cells) (hslots : slots + N ≤ R.slots) (d : decode cc pc = .ok (.new index, 3)) (kk : ∀ q : Nat, Wx p l e R s m args below meth c (cells + 1) (slots + N) Q nL D A (pc + 3) lv (.ref q :: st) (ws ++ [(q, .inr (ci, fs))])) : Wx p l e R s m args below meth c cells slots Q nL D A pc lv st ws := fun H locs ls hP hD hS hl => va_new F.1.1 F.1.2.1 F.1.2.2.2.2 hin ty hty F.1.2.2.2.1 (F.1.2.2.2.2 _ hcl) (F.1.2.2.2.2 _ hinst) (F.1.2.2.2.2 _ hini) F.2.1.1 hP hD hS F.2.2.1 hc hfs hcells hslots d (fun q H1 hP1 hD1 hS1 => kk q H1 locs ls hP1 hD1 hS1 hl)
theorem x_objInit (F : Fx p m c cc nL s args own meth ret D cA A) {index a : Nat} (h1 : Cond.methodLink own index objectInit ∈ T0) (h2 : Cond.instanceMethod objectInit ∈ T0) (h3 : Cond.code objectInit ⟨#[0xb1]⟩ 1 none ∈ T0) (hf : 1 ≤ R.frames) (hlo : (st.map fun v => v.category).sum + 12 ≤ R.locals) (d : decode cc pc = .ok (.invokespecial index, 3)) (kk : Wx p l e R s m args below meth c cells slots Q nL D A (pc + 3) lv st ws) : Wx p l e R s m args below meth c cells slots Q nL D A pc lv (.ref a :: st) ws := by
  intro H locs ls hP hD hS hl
  refine W.objInit F.1.1 F.1.2.1 F.1.2.2.2.1 (F.1.2.2.2.2 _ h1) (F.1.2.2.2.2 _ h2) (F.1.2.2.2.2 _ h3) rfl (by rw [F.1.2.2.1]; exact hl.1) rfl d hf (by show 2 * 0 + _ + 12 ≤ _; omega) ?_
  exact kk H locs ls hP hD hS hl
theorem x_copyI (F : Fx p m c cc nL s args own meth ret D cA A) (q0 q1 : Nat) {a0 a n0 n1 k index : Nat} {f g : Nat → Int32} (ws' : va_W) (ha0 : ws[q0]? = some (a0, .inl (cA 0, n0, .inl f))) (ha1 : ws[q1]? = some (a, .inl (cA 0, n1, .inl g))) (h4 : k ≤ n0) (h5 : k ≤ n1) (hk : k < 2 ^ 31) (hset : ws.set q1 (a, .inl (cA 0, n1, .inl (va_cpy f g 0 0 k))) = ws') (hlink : Cond.methodLink own index arraycopyName ∈ T0) (hf : 1 ≤ R.frames) (hlo : (st.map fun v => v.category).sum + (nativeFrameWords "java/lang/System" "arraycopy" 5 + 11) ≤ R.locals) (d : decode cc pc = .ok (.invokestatic index, 3)) (kk : Wx p l e R s m args below meth c cells slots Q nL D A (pc + 3) lv st ws') : Wx p l e R s m args below meth c cells slots Q nL D A pc lv (.int (nI k) :: .int (nI 0) :: .ref a :: .int (nI 0) :: .ref a0 :: st) ws := by
  intro H locs ls hP hD hS hl
  have e0 : (nI 0).toNatClampNeg = 0 := by decide +kernel
  have ek : (nI k).toNatClampNeg = k := nI_clamp hk
  refine va_copyi (ty := .int) F.1.1 F.1.2.1 (by rw [F.1.2.2.1]; exact hl.1.symm) F.1.2.2.2.1 (F.1.2.2.2.2 _ hlink) (F.1.2.2.2.2 _ wzJS_arraycopy) (F.1.2.2.2.2 _ wtJS_arraycopy) (F.1.2.2.2.2 _ wnJ10) F.2.1.1 hP hD hS q0 q1 0 0 ha0 ha1 rfl rfl rfl (by decide +kernel) (by decide +kernel) (nI_pos hk) (by rw [e0, ek]; omega) (by rw [e0, ek]; omega) (fun _ _ => rfl) hf hlo d (fun H1 locs1 hP1 hD1 hS1 => ?_)
  rw [e0, ek, hset] at hP1 hD1
  exact kk H1 locs1 ls hP1 hD1 hS1 hl
theorem x_copyJ (F : Fx p m c cc nL s args own meth ret D cA A) (q0 q1 : Nat) {a0 a n0 n1 k index : Nat} {f g : Nat → Int64} (ws' : va_W) (ha0 : ws[q0]? = some (a0, .inl (cA 1, n0, .inr (.inl f)))) (ha1 : ws[q1]? = some (a, .inl (cA 1, n1, .inr (.inl g)))) (h4 : k ≤ n0) (h5 : k ≤ n1) (hk : k < 2 ^ 31) (hset : ws.set q1 (a, .inl (cA 1, n1, .inr (.inl (va_cpy f g 0 0 k)))) = ws') (hlink : Cond.methodLink own index arraycopyName ∈ T0) (hf : 1 ≤ R.frames) (hlo : (st.map fun v => v.category).sum + (nativeFrameWords "java/lang/System" "arraycopy" 5 + 11) ≤ R.locals) (d : decode cc pc = .ok (.invokestatic index, 3)) (kk : Wx p l e R s m args below meth c cells slots Q nL D A (pc + 3) lv st ws') : Wx p l e R s m args below meth c cells slots Q nL D A pc lv (.int (nI k) :: .int (nI 0) :: .ref a :: .int (nI 0) :: .ref a0 :: st) ws := by
  intro H locs ls hP hD hS hl
  have e0 : (nI 0).toNatClampNeg = 0 := by decide +kernel
  have ek : (nI k).toNatClampNeg = k := nI_clamp hk
  refine va_copyl (ty := .long) F.1.1 F.1.2.1 (by rw [F.1.2.2.1]; exact hl.1.symm) F.1.2.2.2.1 (F.1.2.2.2.2 _ hlink) (F.1.2.2.2.2 _ wzJS_arraycopy) (F.1.2.2.2.2 _ wtJS_arraycopy) (F.1.2.2.2.2 _ wnJ10) F.2.1.1 hP hD hS q0 q1 1 1 ha0 ha1 rfl rfl rfl (by decide +kernel) (by decide +kernel) (nI_pos hk) (by rw [e0, ek]; omega) (by rw [e0, ek]; omega) (fun _ _ => rfl) hf hlo d (fun H1 locs1 hP1 hD1 hS1 => ?_)
  rw [e0, ek, hset] at hP1 hD1
  exact kk H1 locs1 ls hP1 hD1 hS1 hl
-- a world by places
theorem x_map_of {ws ws' : va_W} {is : List Nat} (h : is.map (fun i => ws[i]?) = ws'.map some) : is.filterMap (fun i => ws[i]?) = ws' := by
  induction is generalizing ws' with
  | nil =>
    cases ws' with
    | nil => rfl
    | cons a l => simp at h
  | cons i is ih =>
    cases ws' with
    | nil => simp at h
    | cons a l =>
      simp only [List.map_cons, List.cons.injEq] at h
      simp only [List.filterMap_cons, h.1]
      rw [ih h.2]
theorem x_sub (ws' : va_W) (is : List Nat) (h : is.map (fun i => ws[i]?) = ws'.map some) (hn : va_nd is = true) (k : Wx p l e R s m args below meth c cells slots Q nL D A pc lv st ws') : Wx p l e R s m args below meth c cells slots Q nL D A pc lv st ws := fun H locs ls hP hD hS hl => k H locs ls (hP.sub is (x_map_of h)) (hD.sub is hn h) hS hl
theorem x_ws (ws' : va_W) (h : ws = ws') (k : Wx p l e R s m args below meth c cells slots Q nL D A pc lv st ws') : Wx p l e R s m args below meth c cells slots Q nL D A pc lv st ws := h ▸ k
theorem x_st (st' : List Value) (h : st = st') (k : Wx p l e R s m args below meth c cells slots Q nL D A pc lv st' ws) : Wx p l e R s m args below meth c cells slots Q nL D A pc lv st ws := h ▸ k
theorem x_top {x : Int32} (x' : Int32) (h : x = x') (k : Wx p l e R s m args below meth c cells slots Q nL D A pc lv (.int x' :: st) ws) : Wx p l e R s m args below meth c cells slots Q nL D A pc lv (.int x :: st) ws := h ▸ k
theorem x_widen {c' s' : Nat} (h1 : cells ≤ c') (h2 : slots ≤ s') (k : Wx p l e R s m args below meth c c' s' Q nL D A pc lv st ws) : Wx p l e R s m args below meth c cells slots Q nL D A pc lv st ws := fun H locs ls hP hD hS hl => W.widen h1 h2 (k H locs ls hP hD hS hl)
-- returns
theorem x_iret {S : Type} {w0 : va_W} {mc ms : Nat} {post : Option Value → S → Prop} {wf : S → va_W} {v : Int32} (F : Fx p m c cc nL s args own meth (some .int) D cA (va_A w0 s.heap.size)) (u : S) (hp : post (some (.int v)) u) (hw : ws = wf u) (h1 : cells ≤ mc) (h2 : slots ≤ ms) (d : decode cc pc = .ok (.ireturn, 1)) : Wx p l e R s m args below meth c cells slots (xQ below D w0 s args mc ms post wf) nL D (va_A w0 s.heap.size) pc lv [.int v] ws := by
  intro H locs ls hP hD hS hl
  subst hw
  exact W.widen h1 h2 (W.iret F.1.1 F.1.2.1 F.2.2.2.1 (fun t ht hW => ⟨⟨_, u, rfl, hp, by rw [ht]; exact hP, hD⟩, hS.F ht⟩) hS.2.2 d F.2.2.2.2)
theorem x_zret {S : Type} {w0 : va_W} {mc ms : Nat} {post : Option Value → S → Prop} {wf : S → va_W} {v : Int32} (F : Fx p m c cc nL s args own meth (some .boolean) D cA (va_A w0 s.heap.size)) (hz : narrow .boolean (.int v) = .int v) (u : S) (hp : post (some (.int v)) u) (hw : ws = wf u) (h1 : cells ≤ mc) (h2 : slots ≤ ms) (d : decode cc pc = .ok (.ireturn, 1)) : Wx p l e R s m args below meth c cells slots (xQ below D w0 s args mc ms post wf) nL D (va_A w0 s.heap.size) pc lv [.int v] ws := by
  intro H locs ls hP hD hS hl
  subst hw
  exact W.widen h1 h2 (W.zret F.1.1 F.1.2.1 F.2.2.2.1 hz (fun t ht hW => ⟨⟨_, u, rfl, hp, by rw [ht]; exact hP, hD⟩, hS.F ht⟩) hS.2.2 d F.2.2.2.2)
theorem x_lret {S : Type} {w0 : va_W} {mc ms : Nat} {post : Option Value → S → Prop} {wf : S → va_W} {v : Int64} (F : Fx p m c cc nL s args own meth (some .long) D cA (va_A w0 s.heap.size)) (u : S) (hp : post (some (.long v)) u) (hw : ws = wf u) (h1 : cells ≤ mc) (h2 : slots ≤ ms) (d : decode cc pc = .ok (.lreturn, 1)) : Wx p l e R s m args below meth c cells slots (xQ below D w0 s args mc ms post wf) nL D (va_A w0 s.heap.size) pc lv [.long v] ws := by
  intro H locs ls hP hD hS hl
  subst hw
  exact W.widen h1 h2 (W.lret F.1.1 F.1.2.1 F.2.2.2.1 (fun t ht hW => ⟨⟨_, u, rfl, hp, by rw [ht]; exact hP, hD⟩, hS.F ht⟩) hS.2.2 d F.2.2.2.2)
theorem x_vret {S : Type} {w0 : va_W} {mc ms : Nat} {post : Option Value → S → Prop} {wf : S → va_W} (F : Fx p m c cc nL s args own meth none D cA (va_A w0 s.heap.size)) (u : S) (hp : post none u) (hw : ws = wf u) (h1 : cells ≤ mc) (h2 : slots ≤ ms) (d : decode cc pc = .ok (.return_, 1)) : Wx p l e R s m args below meth c cells slots (xQ below D w0 s args mc ms post wf) nL D (va_A w0 s.heap.size) pc lv [] ws := by
  intro H locs ls hP hD hS hl
  subst hw
  exact W.widen h1 h2 (W.vret F.1.1 F.1.2.1 F.2.2.2.1 (fun t ht hW => ⟨⟨_, u, rfl, hp, by rw [ht]; exact hP, hD⟩, hS.F ht⟩) hS.2.2 d F.2.2.2.2)
theorem x_aret {S : Type} {w0 : va_W} {mc ms : Nat} {post : Option Value → S → Prop} {wf : S → va_W} {v : Value} {rt : FieldType} (F : Fx p m c cc nL s args own meth (some rt) D cA (va_A w0 s.heap.size)) (hrt : (∃ n, rt = .object n) ∨ ∃ t, rt = .array t) (hv : v = .null ∨ ∃ a, v = .ref a) (u : S) (hp : post (some v) u) (hw : ws = wf u) (h1 : cells ≤ mc) (h2 : slots ≤ ms) (d : decode cc pc = .ok (.areturn, 1)) : Wx p l e R s m args below meth c cells slots (xQ below D w0 s args mc ms post wf) nL D (va_A w0 s.heap.size) pc lv [v] ws := by
  intro H locs ls hP hD hS hl
  subst hw
  exact W.widen h1 h2 (W.aret F.1.1 F.1.2.1 F.2.2.2.1 hrt hv (fun t ht hW => ⟨⟨_, u, rfl, hp, by rw [ht]; exact hP, hD⟩, hS.F ht⟩) hS.2.2 d F.2.2.2.2)
-- calls
theorem good_T0 {w : Cond} (h : w ∈ T0) : GoodIn T0 (w :: T0) := by
  have g : ∀ x ∈ T0, x ∈ T0 ∧ ((x.onTables && x.keeps) = true ∨ ∃ ty, x = .arrayClass ty) := fun x hx => ⟨hx, good_of_word (List.mem_filter.mp hx).2⟩
  intro x hx
  rcases List.mem_cons.mp hx with rfl | hx
  · exact g _ h
  · exact g _ hx
/-- what a call does to the caller's picture -/
theorem x_call_of {S : Type} {w0 wr : va_W} {post : Option Value → S → Prop} {wf : S → va_W} {mc ms : Nat} {stk rest : List Value} {av : Array Value} (F : Fx p m c cc nL s args own meth ret D cA A) (isC isR : List Nat) (hC : isC.map (fun i => ws[i]?) = w0.map some) (hR : isR.map (fun i => ws[i]?) = wr.map some) (hn : va_nd isR = true) (hdis : ∀ i ∈ isR, i ∉ isC)
    (hrun : ∀ (H : Heap) (locs : List Loc) (ls : Array Slot), va_P D vwCl w0 H → va_D (fun _ => True) w0 → lv_has ls nL lv → va_Run p l e R s m args below meth c H locs cells slots mc ms (F0 m pc ls stk) rest (Qg post (xB D w0 H.size wf) (va_A w0 H.size) av) (va_A w0 H.size))
    (hn2 : va_nd isC = true)
    (kk : ∀ (r : Option Value) (u : S), post r u → Wx p l e R s m args below meth c (cells + mc) (slots + ms) Q nL D A (pc + 3) lv (r.toList ++ rest) (wr ++ wf u)) : Wx p l e R s m args below meth c cells slots Q nL D A pc lv stk ws := by
  intro H locs ls hP hD hS hl T hT X
  have hPc := hP.sub isC (x_map_of hC)
  have hDc := hD.sub isC hn2 hC
  have hFc := va_free (wc := w0) hD hS F.2.2.1 isC hC
  obtain ⟨v, st₀, t, T', L, h0, X', hL, e1, e2, ⟨⟨r, u, hv, hp, hPu, hDu⟩, hz, hk⟩, stp⟩ := hrun H locs ls hPc (hDc.weaken (fun _ _ _ _ => trivial)) hl T hT X
  cases hv
  rw [h0] at hz hk
  have hk' : ∀ q : Nat, q < H.size → ¬ va_A w0 H.size q → T'.heap[q]? = H[q]? := fun q h1 h2 => by rw [e1]; exact hk q h1 h2
  obtain ⟨hP2, hD2⟩ := va_join (wr := wr) (w1 := wf u) (H1 := T'.heap) hP hD isC isR hC hR hn hdis hk' hFc (by rw [e1]; exact hPu) hDu
  have hS2 : va_S A s.heap T'.heap (locs ++ L) := ⟨Nat.le_trans hS.1 (by rw [e1]; exact hz), fun q h1 h2 => by rw [hk' q (Nat.lt_of_lt_of_le h1 hS.1) (fun z => h2 (hFc q z))]; exact hS.2.1 q h1 h2, fun q hq => by
    rcases List.mem_append.mp hq with h | h
    · exact hS.2.2 q h
    · exact hFc _ (hL q h)⟩
  obtain ⟨t2, a1, b1⟩ := kk _ u hp T'.heap (locs ++ L) ls hP2 hD2 hS2 hl T' rfl X'
  exact ⟨t2, stp t2 a1, b1⟩
variable {S : Type} {w0 : va_W} {post : Option Value → S → Prop} {wf : S → va_W} {mc ms n k : Nat} {y : MethodName} {bytes : ByteArray} {maxL : Nat} {rt : Option FieldType} {As : List Value} {b index : Nat}
theorem x_cb (F : Fx p m c cc nL s args own meth ret D cA A) (hcode : Cond.code y bytes maxL rt ∈ T0) (hini : Cond.initialized y.cls ∈ T0) (hl : Cond.methodLink own index y ∈ T0) (hd : y.cls ≠ "java/lang/invoke/MethodHandle" ∧ y.cls ≠ "java/lang/invoke/VarHandle" ∧ (parseMethodDescriptor y.desc).map (fun d => d.parameters.length) = some k) (hRm : n + 1 ≤ R.frames ∧ 8 + (maxL + 11) + 36 * n ≤ R.locals) : CallB R s args own index y bytes maxL rt (Cond.code y bytes maxL rt :: T0) (rmL n mc ms) mc ms k :=
  callB_of k F.1.2.2.2.2 (good_T0 hcode) rfl rfl rfl (F.1.2.2.2.2 _ hini) (F.1.2.2.2.2 _ hl) hd hRm
theorem x_callV {C : String} {T : u_T} {N ci q0 : Nat} {fs : List Value} (F : Fx p m c cc nL s args own meth ret D cA A) (rest : List Value) (wr : va_W) (isC isR : List Nat) (hM : Cg l D cA y bytes maxL rt n mc ms (.ref b :: As) w0 post wf) (hw : Mw y C bytes maxL rt k) (hl : Cond.methodLink own index y ∈ T0) (hn0 : As.length = k) (hrc : w0[q0]? = some (b, .inr (ci, fs))) (hcl : vwCl[ci]? = some (C, T, N)) (hstk : st = As.reverse ++ .ref b :: rest) (hcat : (rest.map fun v => v.category).sum ≤ 8) (hRm : n + 1 ≤ R.frames ∧ 8 + (maxL + 11) + 36 * n ≤ R.locals) (hf : cells + mc ≤ R.cells ∧ slots + ms ≤ R.slots) (hC : isC.map (fun i => ws[i]?) = w0.map some) (hR : isR.map (fun i => ws[i]?) = wr.map some) (hn : va_nd isR = true) (hdis : ∀ i ∈ isR, i ∉ isC) (hn2 : va_nd isC = true) (d : decode cc pc = .ok (.invokevirtual index, 3))
    (kk : ∀ (r : Option Value) (u : S), post r u → Wx p l e R s m args below meth c (cells + mc) (slots + ms) Q nL D A (pc + 3) lv (r.toList ++ rest) (wr ++ wf u)) : Wx p l e R s m args below meth c cells slots Q nL D A pc lv st ws := by
  refine x_call_of (av := (Value.ref b :: As).toArray) F isC isR hC hR hn hdis (fun H locs ls hPc hDc hl0 => ?_) hn2 kk
  exact va_runV (As := As) (rest := rest) F.1 (hM H.size) ⟨x_cb F hw.1 hw.2.2.2.1 hl hw.2.2.2.2.1 hRm, F.1.2.2.2.2 _ hw.2.1, F.1.2.2.2.2 _ hw.2.2.1⟩ ⟨xPre_blind, va_recv F.2.1.1 hPc hcl hrc, fun U hU hW => ⟨rfl, by rw [hU], by rw [hU]; exact hPc, hDc, KX.warm hW F.2.1⟩⟩ rfl hn0 hl0.1 hstk (lv_room hcat) d hf
theorem x_callS (F : Fx p m c cc nL s args own meth ret D cA A) (rest : List Value) (wr : va_W) (isC isR : List Nat) (hM : Cg l D cA y bytes maxL rt n mc ms As w0 post wf) (hw : Sw y bytes maxL rt k) (hl : Cond.methodLink own index y ∈ T0) (hn0 : As.length = k) (hstk : st = As.reverse ++ rest) (hcat : (rest.map fun v => v.category).sum ≤ 8) (hRm : n + 1 ≤ R.frames ∧ 8 + (maxL + 11) + 36 * n ≤ R.locals) (hf : cells + mc ≤ R.cells ∧ slots + ms ≤ R.slots) (hC : isC.map (fun i => ws[i]?) = w0.map some) (hR : isR.map (fun i => ws[i]?) = wr.map some) (hn : va_nd isR = true) (hdis : ∀ i ∈ isR, i ∉ isC) (hn2 : va_nd isC = true) (d : decode cc pc = .ok (.invokestatic index, 3))
    (kk : ∀ (r : Option Value) (u : S), post r u → Wx p l e R s m args below meth c (cells + mc) (slots + ms) Q nL D A (pc + 3) lv (r.toList ++ rest) (wr ++ wf u)) : Wx p l e R s m args below meth c cells slots Q nL D A pc lv st ws := by
  refine x_call_of (av := As.toArray) F isC isR hC hR hn hdis (fun H locs ls hPc hDc hl0 => ?_) hn2 kk
  exact va_runS (As := As) (rest := rest) F.1 (hM H.size) ⟨x_cb F hw.1 hw.2.2.1 hl hw.2.2.2 hRm, F.1.2.2.2.2 _ hw.2.1⟩ ⟨xPre_blind, fun U hU hW => ⟨rfl, by rw [hU], by rw [hU]; exact hPc, hDc, KX.warm hW F.2.1⟩⟩ rfl hn0 hl0.1 hstk (lv_room hcat) d hf
theorem x_callI (F : Fx p m c cc nL s args own meth ret D cA A) (rest : List Value) (wr : va_W) (isC isR : List Nat) (hM : Cg l D cA y bytes maxL none n mc ms (.ref b :: As) w0 post wf) (hw : Iw y bytes maxL k) (hl : Cond.methodLink own index y ∈ T0) (hn0 : As.length = k) (hstk : st = As.reverse ++ .ref b :: rest) (hcat : (rest.map fun v => v.category).sum ≤ 8) (hRm : n + 1 ≤ R.frames ∧ 8 + (maxL + 11) + 36 * n ≤ R.locals) (hf : cells + mc ≤ R.cells ∧ slots + ms ≤ R.slots) (hC : isC.map (fun i => ws[i]?) = w0.map some) (hR : isR.map (fun i => ws[i]?) = wr.map some) (hn : va_nd isR = true) (hdis : ∀ i ∈ isR, i ∉ isC) (hn2 : va_nd isC = true) (d : decode cc pc = .ok (.invokespecial index, 3))
    (kk : ∀ (r : Option Value) (u : S), post r u → Wx p l e R s m args below meth c (cells + mc) (slots + ms) Q nL D A (pc + 3) lv (r.toList ++ rest) (wr ++ wf u)) : Wx p l e R s m args below meth c cells slots Q nL D A pc lv st ws := by
  refine x_call_of (av := (Value.ref b :: As).toArray) F isC isR hC hR hn hdis (fun H locs ls hPc hDc hl0 => ?_) hn2 kk
  exact va_runI (As := As) (rest := rest) F.1 (hM H.size) ⟨x_cb F hw.1 hw.2.2.1 hl hw.2.2.2.1 hRm, hw.2.2.2.2, F.1.2.2.2.2 _ hw.2.1⟩ ⟨xPre_blind, fun U hU hW => ⟨rfl, by rw [hU], by rw [hU]; exact hPc, hDc, KX.warm hW F.2.1⟩⟩ rfl hn0 hl0.1 hstk (lv_room hcat) d hf
theorem x_callSN {host : String} (F : Fx p m c cc nL s args own meth ret D cA A) (rest : List Value) (wr : va_W) (isC isR : List Nat) (hM : Cg l D cA y bytes maxL rt n mc ms As w0 post wf) (hw : Sw y bytes maxL rt k) (hl : va_Nw (.methodLinkNest own index y host) s) (hn0 : As.length = k) (hstk : st = As.reverse ++ rest) (hcat : (rest.map fun v => v.category).sum ≤ 8) (hRm : n + 1 ≤ R.frames ∧ 8 + (maxL + 11) + 36 * n ≤ R.locals) (hf : cells + mc ≤ R.cells ∧ slots + ms ≤ R.slots) (hC : isC.map (fun i => ws[i]?) = w0.map some) (hR : isR.map (fun i => ws[i]?) = wr.map some) (hn : va_nd isR = true) (hdis : ∀ i ∈ isR, i ∉ isC) (hn2 : va_nd isC = true) (d : decode cc pc = .ok (.invokestatic index, 3))
    (kk : ∀ (r : Option Value) (u : S), post r u → Wx p l e R s m args below meth c (cells + mc) (slots + ms) Q nL D A (pc + 3) lv (r.toList ++ rest) (wr ++ wf u)) : Wx p l e R s m args below meth c cells slots Q nL D A pc lv st ws := by
  refine x_call_of (av := As.toArray) F isC isR hC hR hn hdis (fun H locs ls hPc hDc hl0 => ?_) hn2 kk
  exact va_runSN (As := As) (rest := rest) F.1 (hM H.size) ⟨va_cnB (ws' := T0) k F.1.2.2.2.2 (good_T0 hw.1) rfl rfl rfl hl (F.1.2.2.2.2 _ hw.2.2.1) hw.2.2.2 hRm, F.1.2.2.2.2 _ hw.2.1, trivial⟩ ⟨xPre_blind, fun U hU hW => ⟨rfl, by rw [hU], by rw [hU]; exact hPc, hDc, KX.warm hW F.2.1⟩⟩ rfl hn0 hl0.1 hstk (lv_room hcat) d hf
theorem x_callIN {host : String} (F : Fx p m c cc nL s args own meth ret D cA A) (rest : List Value) (wr : va_W) (isC isR : List Nat) (hM : Cg l D cA y bytes maxL none n mc ms (.ref b :: As) w0 post wf) (hw : Iw y bytes maxL k) (hl : va_Nw (.methodLinkNest own index y host) s) (hn0 : As.length = k) (hstk : st = As.reverse ++ .ref b :: rest) (hcat : (rest.map fun v => v.category).sum ≤ 8) (hRm : n + 1 ≤ R.frames ∧ 8 + (maxL + 11) + 36 * n ≤ R.locals) (hf : cells + mc ≤ R.cells ∧ slots + ms ≤ R.slots) (hC : isC.map (fun i => ws[i]?) = w0.map some) (hR : isR.map (fun i => ws[i]?) = wr.map some) (hn : va_nd isR = true) (hdis : ∀ i ∈ isR, i ∉ isC) (hn2 : va_nd isC = true) (d : decode cc pc = .ok (.invokespecial index, 3))
    (kk : ∀ (r : Option Value) (u : S), post r u → Wx p l e R s m args below meth c (cells + mc) (slots + ms) Q nL D A (pc + 3) lv (r.toList ++ rest) (wr ++ wf u)) : Wx p l e R s m args below meth c cells slots Q nL D A pc lv st ws := by
  refine x_call_of (av := (Value.ref b :: As).toArray) F isC isR hC hR hn hdis (fun H locs ls hPc hDc hl0 => ?_) hn2 kk
  exact va_runIN (As := As) (rest := rest) F.1 (hM H.size) ⟨va_cnB (ws' := T0) k F.1.2.2.2.2 (good_T0 hw.1) rfl rfl rfl hl (F.1.2.2.2.2 _ hw.2.2.1) hw.2.2.2.1 hRm, hw.2.2.2.2, F.1.2.2.2.2 _ hw.2.1⟩ ⟨xPre_blind, fun U hU hW => ⟨rfl, by rw [hU], by rw [hU]; exact hPc, hDc, KX.warm hW F.2.1⟩⟩ rfl hn0 hl0.1 hstk (lv_room hcat) d hf
/-- a callee that only reads: the caller's picture stays -/
theorem x_call_ro {w0 : va_W} {post : Option Value → Prop} {stk rest : List Value} {av : Array Value} (F : Fx p m c cc nL s args own meth ret D cA A) (isC : List Nat) (hC : isC.map (fun i => ws[i]?) = w0.map some) (hn2 : va_nd isC = true)
    (hrun : ∀ (H : Heap) (locs : List Loc) (ls : Array Slot), va_P D vwCl w0 H → va_D (fun _ => True) w0 → lv_has ls nL lv → va_Run p l e R s m args below meth c H locs cells slots 0 0 (F0 m pc ls stk) rest (Qg (S := Unit) (fun r _ => post r) (xB D w0 H.size (fun _ => w0)) (va_A w0 H.size) av) (va_A w0 H.size))
    (kk : ∀ (r : Option Value), post r → Wx p l e R s m args below meth c cells slots Q nL D A (pc + 3) lv (r.toList ++ rest) ws) : Wx p l e R s m args below meth c cells slots Q nL D A pc lv stk ws := by
  intro H locs ls hP hD hS hl T hT X
  have hPc := hP.sub isC (x_map_of hC)
  have hDc := hD.sub isC hn2 hC
  have hFc := va_free (wc := w0) hD hS F.2.2.1 isC hC
  obtain ⟨v, st₀, t, T', L, h0, X', hL, e1, e2, ⟨⟨r, u, hv, hp, hPu, hDu⟩, hz, hk⟩, stp⟩ := hrun H locs ls hPc (hDc.weaken (fun _ _ _ _ => trivial)) hl T hT X
  cases hv
  rw [h0] at hz hk
  have hk' : ∀ q : Nat, q < H.size → ¬ va_A w0 H.size q → T'.heap[q]? = H[q]? := fun q h1 h2 => by rw [e1]; exact hk q h1 h2
  have hP2 : va_P D vwCl ws T'.heap := by
    intro k q hq
    by_cases hA : va_A w0 H.size q.1
    · rcases hA with ⟨j, ev, hj⟩ | hA
      · have h1 : (isC.map (fun i => ws[i]?))[j]? = some (some (q.1, ev)) := by rw [hC, List.getElem?_map, hj]; rfl
        rw [List.getElem?_map] at h1
        cases hi : isC[j]? with
        | none => rw [hi] at h1; cases h1
        | some i =>
          rw [hi] at h1
          have h2 : ws[i]? = some (q.1, ev) := Option.some.inj h1
          have hki := hD.1 k i q (q.1, ev) hq h2 rfl
          subst hki
          have hqe : q = (q.1, ev) := Option.some.inj (hq.symm.trans h2)
          rw [hqe, e1]
          exact hPu j _ hj
      · exact absurd (hP k q hq).lt (by omega)
    · exact (hP k q hq).kept (hk' q.1 (hP k q hq).lt hA)
  have hS2 : va_S A s.heap T'.heap (locs ++ L) := ⟨Nat.le_trans hS.1 (by rw [e1]; exact hz), fun q h1 h2 => by rw [hk' q (Nat.lt_of_lt_of_le h1 hS.1) (fun z => h2 (hFc q z))]; exact hS.2.1 q h1 h2, fun q hq => by
    rcases List.mem_append.mp hq with h | h
    · exact hS.2.2 q h
    · exact hFc _ (hL q h)⟩
  obtain ⟨t2, a1, b1⟩ := kk _ hp T'.heap (locs ++ L) ls hP2 hD hS2 hl T' rfl X'
  exact ⟨t2, stp t2 a1, b1⟩
/-- a contract of a method that only reads -/
abbrev Cr (l : Launch) (D : va_G) (cA : Nat → ClassId) (y : MethodName) (bytes : ByteArray) (nL : Nat) (ret : Option FieldType) (n : Nat) (av : List Value) (w0 : va_W) (post : Option Value → Prop) : Prop := Cg (S := Unit) l D cA y bytes nL ret n 0 0 av w0 (fun r _ => post r) (fun _ => w0)
theorem x_callVr {C : String} {T : u_T} {N ci q0 : Nat} {fs : List Value} {post : Option Value → Prop} (F : Fx p m c cc nL s args own meth ret D cA A) (rest : List Value) (isC : List Nat) (hM : Cr l D cA y bytes maxL rt n (.ref b :: As) w0 post) (hw : Mw y C bytes maxL rt k) (hl : Cond.methodLink own index y ∈ T0) (hn0 : As.length = k) (hrc : w0[q0]? = some (b, .inr (ci, fs))) (hcl : vwCl[ci]? = some (C, T, N)) (hstk : st = As.reverse ++ .ref b :: rest) (hcat : (rest.map fun v => v.category).sum ≤ 8) (hRm : n + 1 ≤ R.frames ∧ 8 + (maxL + 11) + 36 * n ≤ R.locals) (hf : cells + 0 ≤ R.cells ∧ slots + 0 ≤ R.slots) (hC : isC.map (fun i => ws[i]?) = w0.map some) (hn2 : va_nd isC = true) (d : decode cc pc = .ok (.invokevirtual index, 3))
    (kk : ∀ (r : Option Value), post r → Wx p l e R s m args below meth c cells slots Q nL D A (pc + 3) lv (r.toList ++ rest) ws) : Wx p l e R s m args below meth c cells slots Q nL D A pc lv st ws := by
  refine x_call_ro (av := (Value.ref b :: As).toArray) F isC hC hn2 (fun H locs ls hPc hDc hl0 => ?_) kk
  exact va_runV (As := As) (rest := rest) F.1 (hM H.size) ⟨x_cb F hw.1 hw.2.2.2.1 hl hw.2.2.2.2.1 hRm, F.1.2.2.2.2 _ hw.2.1, F.1.2.2.2.2 _ hw.2.2.1⟩ ⟨xPre_blind, va_recv F.2.1.1 hPc hcl hrc, fun U hU hW => ⟨rfl, by rw [hU], by rw [hU]; exact hPc, hDc, KX.warm hW F.2.1⟩⟩ rfl hn0 hl0.1 hstk (lv_room hcat) d hf
theorem x_callSr {post : Option Value → Prop} (F : Fx p m c cc nL s args own meth ret D cA A) (rest : List Value) (isC : List Nat) (hM : Cr l D cA y bytes maxL rt n As w0 post) (hw : Sw y bytes maxL rt k) (hl : Cond.methodLink own index y ∈ T0) (hn0 : As.length = k) (hstk : st = As.reverse ++ rest) (hcat : (rest.map fun v => v.category).sum ≤ 8) (hRm : n + 1 ≤ R.frames ∧ 8 + (maxL + 11) + 36 * n ≤ R.locals) (hf : cells + 0 ≤ R.cells ∧ slots + 0 ≤ R.slots) (hC : isC.map (fun i => ws[i]?) = w0.map some) (hn2 : va_nd isC = true) (d : decode cc pc = .ok (.invokestatic index, 3))
    (kk : ∀ (r : Option Value), post r → Wx p l e R s m args below meth c cells slots Q nL D A (pc + 3) lv (r.toList ++ rest) ws) : Wx p l e R s m args below meth c cells slots Q nL D A pc lv st ws := by
  refine x_call_ro (av := As.toArray) F isC hC hn2 (fun H locs ls hPc hDc hl0 => ?_) kk
  exact va_runS (As := As) (rest := rest) F.1 (hM H.size) ⟨x_cb F hw.1 hw.2.2.1 hl hw.2.2.2 hRm, F.1.2.2.2.2 _ hw.2.1⟩ ⟨xPre_blind, fun U hU hW => ⟨rfl, by rw [hU], by rw [hU]; exact hPc, hDc, KX.warm hW F.2.1⟩⟩ rfl hn0 hl0.1 hstk (lv_room hcat) d hf
theorem x_callSNr {host : String} {post : Option Value → Prop} (F : Fx p m c cc nL s args own meth ret D cA A) (rest : List Value) (isC : List Nat) (hM : Cr l D cA y bytes maxL rt n As w0 post) (hw : Sw y bytes maxL rt k) (hl : va_Nw (.methodLinkNest own index y host) s) (hn0 : As.length = k) (hstk : st = As.reverse ++ rest) (hcat : (rest.map fun v => v.category).sum ≤ 8) (hRm : n + 1 ≤ R.frames ∧ 8 + (maxL + 11) + 36 * n ≤ R.locals) (hf : cells + 0 ≤ R.cells ∧ slots + 0 ≤ R.slots) (hC : isC.map (fun i => ws[i]?) = w0.map some) (hn2 : va_nd isC = true) (d : decode cc pc = .ok (.invokestatic index, 3))
    (kk : ∀ (r : Option Value), post r → Wx p l e R s m args below meth c cells slots Q nL D A (pc + 3) lv (r.toList ++ rest) ws) : Wx p l e R s m args below meth c cells slots Q nL D A pc lv st ws := by
  refine x_call_ro (av := As.toArray) F isC hC hn2 (fun H locs ls hPc hDc hl0 => ?_) kk
  exact va_runSN (As := As) (rest := rest) F.1 (hM H.size) ⟨va_cnB (ws' := T0) k F.1.2.2.2.2 (good_T0 hw.1) rfl rfl rfl hl (F.1.2.2.2.2 _ hw.2.2.1) hw.2.2.2 hRm, F.1.2.2.2.2 _ hw.2.1, trivial⟩ ⟨xPre_blind, fun U hU hW => ⟨rfl, by rw [hU], by rw [hU]; exact hPc, hDc, KX.warm hW F.2.1⟩⟩ rfl hn0 hl0.1 hstk (lv_room hcat) d hf
theorem x_mmax (F : Fx p m c cc nL s args own meth ret D cA A) {x y : Int32} (v : Int32) (hl : Cond.methodLink own index yJ9_max_7cf53 ∈ T0) (hf : 1 ≤ R.frames) (hlo : (st.map fun v => v.category).sum + 13 ≤ R.locals) (hc : cells ≤ R.cells) (hs : slots ≤ R.slots) (hv : (if x < y then y else x) = v) (d : decode cc pc = .ok (.invokestatic index, 3)) (kk : Wx p l e R s m args below meth c cells slots Q nL D A (pc + 3) lv (.int v :: st) ws) : Wx p l e R s m args below meth c cells slots Q nL D A pc lv (.int y :: .int x :: st) ws := fun H locs ls hP hD hS hl0 => va_mmax F.1.1 F.1.2.1 (by rw [F.1.2.2.1]; exact hl0.1.symm) F.1.2.2.2.1 (F.1.2.2.2.2 _ hl) (F.1.2.2.2.2 _ wtJ9_max_7cf53) (F.1.2.2.2.2 _ wnJ9) (F.1.2.2.2.2 _ wcJ9_max_7cf53) hf hlo hc hs d (by rw [hv]; exact kk H locs ls hP hD hS hl0)
theorem x_mmin (F : Fx p m c cc nL s args own meth ret D cA A) {x y : Int32} (v : Int32) (hl : Cond.methodLink own index yJ9_min_7cf53 ∈ T0) (hf : 1 ≤ R.frames) (hlo : (st.map fun v => v.category).sum + 13 ≤ R.locals) (hc : cells ≤ R.cells) (hs : slots ≤ R.slots) (hv : (if y < x then y else x) = v) (d : decode cc pc = .ok (.invokestatic index, 3)) (kk : Wx p l e R s m args below meth c cells slots Q nL D A (pc + 3) lv (.int v :: st) ws) : Wx p l e R s m args below meth c cells slots Q nL D A pc lv (.int y :: .int x :: st) ws := fun H locs ls hP hD hS hl0 => va_mmin F.1.1 F.1.2.1 (by rw [F.1.2.2.1]; exact hl0.1.symm) F.1.2.2.2.1 (F.1.2.2.2.2 _ hl) (F.1.2.2.2.2 _ wtJ9_min_7cf53) (F.1.2.2.2.2 _ wnJ9) (F.1.2.2.2.2 _ wcJ9_min_7cf53) hf hlo hc hs d (by rw [hv]; exact kk H locs ls hP hD hS hl0)
theorem x_mabs (F : Fx p m c cc nL s args own meth ret D cA A) {x : Int32} (v : Int32) (hl : Cond.methodLink own index yJ9_abs_0f7a4 ∈ T0) (hf : 1 ≤ R.frames) (hlo : (st.map fun v => v.category).sum + 13 ≤ R.locals) (hc : cells ≤ R.cells) (hs : slots ≤ R.slots) (hv : (if 0 ≤ x then x else 0 - x) = v) (d : decode cc pc = .ok (.invokestatic index, 3)) (kk : Wx p l e R s m args below meth c cells slots Q nL D A (pc + 3) lv (.int v :: st) ws) : Wx p l e R s m args below meth c cells slots Q nL D A pc lv (.int x :: st) ws := fun H locs ls hP hD hS hl0 => va_mabs F.1.1 F.1.2.1 (by rw [F.1.2.2.1]; exact hl0.1.symm) F.1.2.2.2.1 (F.1.2.2.2.2 _ hl) (F.1.2.2.2.2 _ wtJ9_abs_0f7a4) (F.1.2.2.2.2 _ wnJ9) (F.1.2.2.2.2 _ wcJ9_abs_0f7a4) hf hlo hc hs d (by rw [hv]; exact kk H locs ls hP hD hS hl0)
end XB
end
section
/-! THE STATE: an object is a table of numbers M (field, place); its cells by the addresses ad (field; 100: itself) -/
def st2 (M : Nat → Nat → Int32) (k j : Nat) (v : Int32) : Nat → Nat → Int32 := va_up M k (upd (M k) j v)
def st3 (M : Nat → Nat → Int64) (k j : Nat) (v : Int64) : Nat → Nat → Int64 := va_up M k (vp_updL (M k) j v)
theorem st2_at (M : Nat → Nat → Int32) (k j : Nat) (v : Int32) (a b : Nat) : st2 M k j v a b = if a = k ∧ b = j then v else M a b := by
  unfold st2 va_up upd
  by_cases h : a = k
  · subst h; by_cases h2 : b = j <;> simp [h2]
  · simp [h]
theorem st3_at (M : Nat → Nat → Int64) (k j : Nat) (v : Int64) (a b : Nat) : st3 M k j v a b = if a = k ∧ b = j then v else M a b := by
  unfold st3 va_up vp_updL
  by_cases h : a = k
  · subst h; by_cases h2 : b = j <;> simp [h2]
  · simp [h]
def bz (P : Prop) [Decidable P] : Int32 := if P then 1 else 0
theorem bz_t {P : Prop} [Decidable P] (h : P) : bz P = 1 := if_pos h
theorem bz_f {P : Prop} [Decidable P] (h : ¬ P) : bz P = 0 := if_neg h
theorem bz_0 {P : Prop} [Decidable P] : bz P = 0 ↔ ¬ P := by
  unfold bz; by_cases h : P
  · simp [h]
  · simp [h]
theorem bz_n0 {P : Prop} [Decidable P] : ¬ bz P = 0 ↔ P := by rw [bz_0, Classical.not_not]
theorem bz_nar {P : Prop} [Decidable P] : narrow .boolean (.int (bz P)) = .int (bz P) := by
  by_cases h : P
  · rw [bz_t h]; decide +kernel
  · rw [bz_f h]; decide +kernel
def wF (cA : Nat → ClassId) (ad : Nat → Nat) (M : Nat → Nat → Int32) : va_W := [(ad 100, .inr (0, [.int (M 0 0), .int (M 1 0), .ref (ad 2), .ref (ad 3), .ref (ad 4), .ref (ad 5), .ref (ad 6), .ref (ad 7), .ref (ad 8), .ref (ad 9), .ref (ad 10)])), (ad 2, .inl (cA 2, 16, .inl (M 2))), (ad 3, .inl (cA 0, 16, .inl (M 3))), (ad 4, .inl (cA 0, 16, .inl (M 4))), (ad 5, .inl (cA 0, 16, .inl (M 5))), (ad 6, .inl (cA 0, 16, .inl (M 6))), (ad 7, .inl (cA 0, 16, .inl (M 7))), (ad 8, .inl (cA 0, 6, .inl (M 8))), (ad 9, .inl (cA 0, 6, .inl (M 9))), (ad 10, .inl (cA 0, 6, .inl (M 10)))]
def wL (cA : Nat → ClassId) (ad : Nat → Nat) (M : Nat → Nat → Int32) : va_W := [(ad 100, .inr (1, [.ref (ad 0), .ref (ad 1), .ref (ad 2), .ref (ad 3), .ref (ad 4), .int (M 5 0)])), (ad 0, .inl (cA 0, 120, .inl (M 0))), (ad 1, .inl (cA 0, 120, .inl (M 1))), (ad 2, .inl (cA 0, 120, .inl (M 2))), (ad 3, .inl (cA 0, 120, .inl (M 3))), (ad 4, .inl (cA 0, 120, .inl (M 4)))]
def wM (cA : Nat → ClassId) (ad : Nat → Nat) (L : Nat) (M : Nat → Nat → Int32) (J : Nat → Nat → Int64) : va_W := [(ad 100, .inr (2, [.int (M 0 0), .ref (ad 1), .ref (ad 2), .ref (ad 3)])), (ad 1, .inl (cA 0, 16, .inl (M 1))), (ad 2, .inl (cA 0, 16, .inl (M 2))), (ad 3, .inl (cA 1, L, .inr (.inl (J 3))))]
def wS (cA : Nat → ClassId) (ad : Nat → Nat) (fo L : Nat) (M : Nat → Nat → Int32) (J : Nat → Nat → Int64) (mk : Nat → Option Nat) : va_W := [(ad 100, .inr (3, [.ref fo, .ref (ad 1), .ref (ad 2), .ref (ad 3), .ref (ad 4), .ref (ad 5), .long (J 6 0), .long (J 7 0), .int (M 8 0), .int (M 9 0), .int (M 10 0), .int (M 11 0)])), (ad 1, .inl (cA 0, 16, .inl (M 1))), (ad 2, .inl (cA 0, 16, .inl (M 2))), (ad 3, .inl (cA 1, L, .inr (.inl (J 3)))), (ad 4, .inl (cA 3, 2, .inr (.inr (.inr (.inr mk))))), (ad 5, .inl (cA 0, 16, .inl (M 5)))]
def wX (cA : Nat → ClassId) (ad : Nat → Nat) (lo la ot : Nat) (M : Nat → Nat → Int32) (sv : Nat → Option Nat) : va_W := [(ad 100, .inr (4, [.ref lo, .ref la, .ref ot, .ref (ad 3), .int (M 4 0)])), (ad 3, .inl (cA 4, 3, .inr (.inr (.inr (.inr sv)))))]
def wR (cA : Nat → ClassId) (ad : Nat → Nat) (M : Nat → Nat → Int32) : va_W := [(ad 100, .inr (5, [.int (M 0 0), .ref (ad 1), .ref (ad 2), .ref (ad 3), .ref (ad 4), .ref (ad 5), .ref (ad 6), .ref (ad 7), .ref (ad 8), .ref (ad 9), .ref (ad 10), .ref (ad 11), .ref (ad 12), .int (M 13 0), .ref (ad 14), .int (M 15 0), .int (M 16 0), .int (M 17 0), .ref (ad 18), .ref (ad 19), .ref (ad 20), .ref (ad 21), .ref (ad 22), .ref (ad 23), .ref (ad 24), .ref (ad 25), .ref (ad 26), .ref (ad 27), .ref (ad 28), .ref (ad 29)])), (ad 1, .inl (cA 0, 120, .inl (M 1))), (ad 2, .inl (cA 0, 120, .inl (M 2))), (ad 3, .inl (cA 0, 120, .inl (M 3))), (ad 4, .inl (cA 0, 120, .inl (M 4))), (ad 5, .inl (cA 0, 120, .inl (M 5))), (ad 6, .inl (cA 2, 80, .inl (M 6))), (ad 7, .inl (cA 0, 80, .inl (M 7))), (ad 8, .inl (cA 0, 80, .inl (M 8))), (ad 9, .inl (cA 0, 80, .inl (M 9))), (ad 10, .inl (cA 0, 80, .inl (M 10))), (ad 11, .inl (cA 0, 80, .inl (M 11))), (ad 12, .inl (cA 0, 30, .inl (M 12))), (ad 14, .inl (cA 0, 320, .inl (M 14))), (ad 18, .inl (cA 0, 3, .inl (M 18))), (ad 19, .inl (cA 0, 3, .inl (M 19))), (ad 20, .inl (cA 0, 3, .inl (M 20))), (ad 21, .inl (cA 0, 3, .inl (M 21))), (ad 22, .inl (cA 0, 24, .inl (M 22))), (ad 23, .inl (cA 0, 24, .inl (M 23))), (ad 24, .inl (cA 0, 3, .inl (M 24))), (ad 25, .inl (cA 0, 3, .inl (M 25))), (ad 26, .inl (cA 2, 6, .inl (M 26))), (ad 27, .inl (cA 0, 6, .inl (M 27))), (ad 28, .inl (cA 0, 48, .inl (M 28))), (ad 29, .inl (cA 0, 48, .inl (M 29)))]
end
section
/-! the JDK's and the static leaves -/
theorem win_t {a b x : Int32} (h1 : ¬ x < a) (h2 : ¬ b < x) : bz (a ≤ x ∧ x ≤ b) = nI 1 := bz_t ⟨Int32.not_lt.mp h1, Int32.not_lt.mp h2⟩
theorem win_f1 {a b x : Int32} (h : x < a) : bz (a ≤ x ∧ x ≤ b) = nI 0 := bz_f (fun z => Int32.not_lt.mpr z.1 h)
theorem win_f2 {a b x : Int32} (h : b < x) : bz (a ≤ x ∧ x ≤ b) = nI 0 := bz_f (fun z => Int32.not_lt.mpr z.2 h)
set_option maxHeartbeats 4000000 in
set_option maxRecDepth 100000 in
theorem c_X4_isWithin (l : Launch) (D : va_G) (cA : Nat → ClassId) (p0 p1 p2 : Int32)  : Cr l D cA yX4_isWithin cX4_isWithin 3 (some .boolean) 0 ([.int p0, .int p1, .int p2] : List Value) ([]) (fun r : Option Value => r = some (.int (bz (p1 ≤ p0 ∧ p0 ≤ p2)))) := by
  refine x_met (by decide +kernel) rfl (Nat.le_of_ble_eq_true rfl) ?_
  intro xp xe xs xm xbl xme xco F hnm
  refine x_lv [(0, .int p0), (1, .int p1), (2, .int p2)] [0, 1, 2] rfl ?_
  refine x_iload_n F 0 dX4_isWithin_0 rfl ?_
  refine x_iload_n F 1 dX4_isWithin_1 rfl ?_
  refine x_icmp_lt F 14 dX4_isWithin_2 (by decide) (fun h2 => ?_) (fun h2 => ?_)
  · refine x_iconst F (nI 0) dX4_isWithin_14 (by decide +kernel) ?_
    exact x_zret F (by decide +kernel) () (by first | rw [win_t h2 h7] | rw [win_f1 h2] | rw [win_f2 h7]) (rfl) (by omega) (by omega) dX4_isWithin_15
  · refine x_iload_n F 0 dX4_isWithin_5 rfl ?_
    refine x_iload_n F 2 dX4_isWithin_6 rfl ?_
    refine x_icmp_gt F 14 dX4_isWithin_7 (by decide) (fun h7 => ?_) (fun h7 => ?_)
    · refine x_iconst F (nI 0) dX4_isWithin_14 (by decide +kernel) ?_
      exact x_zret F (by decide +kernel) () (by first | rw [win_t h2 h7] | rw [win_f1 h2] | rw [win_f2 h7]) (rfl) (by omega) (by omega) dX4_isWithin_15
    · refine x_iconst F (nI 1) dX4_isWithin_10 (by decide +kernel) ?_
      refine x_goto F 15 dX4_isWithin_11 (by decide) ?_
      exact x_zret F (by decide +kernel) () (by first | rw [win_t h2 h7] | rw [win_f1 h2] | rw [win_f2 h7]) (rfl) (by omega) (by omega) dX4_isWithin_15

set_option maxHeartbeats 4000000 in
set_option maxRecDepth 100000 in
theorem c_X5_in (l : Launch) (D : va_G) (cA : Nat → ClassId) (p0 p1 p2 : Int32)  : Cr l D cA yX5_in cX5_in 3 (some .boolean) 0 ([.int p0, .int p1, .int p2] : List Value) ([]) (fun r : Option Value => r = some (.int (bz (p1 ≤ p0 ∧ p0 ≤ p2)))) := by
  refine x_met (by decide +kernel) rfl (Nat.le_of_ble_eq_true rfl) ?_
  intro xp xe xs xm xbl xme xco F hnm
  refine x_lv [(0, .int p0), (1, .int p1), (2, .int p2)] [0, 1, 2] rfl ?_
  refine x_iload_n F 0 dX5_in_0 rfl ?_
  refine x_iload_n F 1 dX5_in_1 rfl ?_
  refine x_icmp_lt F 14 dX5_in_2 (by decide) (fun h2 => ?_) (fun h2 => ?_)
  · refine x_iconst F (nI 0) dX5_in_14 (by decide +kernel) ?_
    exact x_zret F (by decide +kernel) () (by first | rw [win_t h2 h7] | rw [win_f1 h2] | rw [win_f2 h7]) (rfl) (by omega) (by omega) dX5_in_15
  · refine x_iload_n F 0 dX5_in_5 rfl ?_
    refine x_iload_n F 2 dX5_in_6 rfl ?_
    refine x_icmp_gt F 14 dX5_in_7 (by decide) (fun h7 => ?_) (fun h7 => ?_)
    · refine x_iconst F (nI 0) dX5_in_14 (by decide +kernel) ?_
      exact x_zret F (by decide +kernel) () (by first | rw [win_t h2 h7] | rw [win_f1 h2] | rw [win_f2 h7]) (rfl) (by omega) (by omega) dX5_in_15
    · refine x_iconst F (nI 1) dX5_in_10 (by decide +kernel) ?_
      refine x_goto F 15 dX5_in_11 (by decide) ?_
      exact x_zret F (by decide +kernel) () (by first | rw [win_t h2 h7] | rw [win_f1 h2] | rw [win_f2 h7]) (rfl) (by omega) (by omega) dX5_in_15

set_option maxHeartbeats 4000000 in
set_option maxRecDepth 100000 in
theorem c_X4_isRoom (l : Launch) (D : va_G) (cA : Nat → ClassId) (p0 : Int32)  : Cr l D cA yX4_isRoom cX4_isRoom 1 (some .boolean) 1 ([.int p0] : List Value) ([]) (fun r : Option Value => r = some (.int (bz (nI 0 ≤ p0 ∧ p0 ≤ nI 5)))) := by
  refine x_met (by decide +kernel) rfl (Nat.le_of_ble_eq_true rfl) ?_
  intro xp xe xs xm xbl xme xco F hnm
  refine x_lv [(0, .int p0)] [0] rfl ?_
  refine x_iload_n F 0 dX4_isRoom_0 rfl ?_
  refine x_iconst F (nI 0) dX4_isRoom_1 (by decide +kernel) ?_
  refine x_iconst F (nI 5) dX4_isRoom_2 (by decide +kernel) ?_
  refine x_callSr F [] [] (c_X4_isWithin l D cA p0 (nI 0) (nI 5)) mwX4_isWithin wmX4_54 rfl rfl (Nat.le_of_ble_eq_true rfl) ⟨by decide, by decide⟩ ⟨by show _ ≤ 0; omega, by show _ ≤ 0; omega⟩ rfl (by decide) dX4_isRoom_3 (fun r1 hp2 => ?_)
  subst hp2
  exact x_zret F (bz_nar) () (rfl) (rfl) (by omega) (by omega) dX4_isRoom_6

set_option maxHeartbeats 4000000 in
set_option maxRecDepth 100000 in
theorem c_X4_isMark (l : Launch) (D : va_G) (cA : Nat → ClassId) (p0 : Int32)  : Cr l D cA yX4_isMark cX4_isMark 1 (some .boolean) 1 ([.int p0] : List Value) ([]) (fun r : Option Value => r = some (.int (bz (nI 0 ≤ p0 ∧ p0 ≤ nI 1)))) := by
  refine x_met (by decide +kernel) rfl (Nat.le_of_ble_eq_true rfl) ?_
  intro xp xe xs xm xbl xme xco F hnm
  refine x_lv [(0, .int p0)] [0] rfl ?_
  refine x_iload_n F 0 dX4_isMark_0 rfl ?_
  refine x_iconst F (nI 0) dX4_isMark_1 (by decide +kernel) ?_
  refine x_iconst F (nI 1) dX4_isMark_2 (by decide +kernel) ?_
  refine x_callSr F [] [] (c_X4_isWithin l D cA p0 (nI 0) (nI 1)) mwX4_isWithin wmX4_54 rfl rfl (Nat.le_of_ble_eq_true rfl) ⟨by decide, by decide⟩ ⟨by show _ ≤ 0; omega, by show _ ≤ 0; omega⟩ rfl (by decide) dX4_isMark_3 (fun r1 hp2 => ?_)
  subst hp2
  exact x_zret F (bz_nar) () (rfl) (rfl) (by omega) (by omega) dX4_isMark_6

theorem tr_t {A B C : Prop} [Decidable A] [Decidable B] [Decidable C] (h1 : ¬ bz A = 0) (h2 : ¬ bz B = 0) (h3 : ¬ bz C = 0) : bz (A ∧ B ∧ C) = nI 1 := bz_t ⟨bz_n0.mp h1, bz_n0.mp h2, bz_n0.mp h3⟩
theorem tr_f1 {A B C : Prop} [Decidable A] [Decidable B] [Decidable C] (h1 : bz A = 0) : bz (A ∧ B ∧ C) = nI 0 := bz_f (fun z => bz_0.mp h1 z.1)
theorem tr_f2 {A B C : Prop} [Decidable A] [Decidable B] [Decidable C] (h1 : bz B = 0) : bz (A ∧ B ∧ C) = nI 0 := bz_f (fun z => bz_0.mp h1 z.2.1)
theorem tr_f3 {A B C : Prop} [Decidable A] [Decidable B] [Decidable C] (h1 : bz C = 0) : bz (A ∧ B ∧ C) = nI 0 := bz_f (fun z => bz_0.mp h1 z.2.2)
set_option maxHeartbeats 4000000 in
set_option maxRecDepth 100000 in
theorem c_X4_areTraits (l : Launch) (D : va_G) (cA : Nat → ClassId) (p0 p1 p2 : Int32)  : Cr l D cA yX4_areTraits cX4_areTraits 3 (some .boolean) 2 ([.int p0, .int p1, .int p2] : List Value) ([]) (fun r : Option Value => r = some (.int (bz ((nI 1 ≤ p0 ∧ p0 ≤ nI 100) ∧ (nI 0 ≤ p1 ∧ p1 ≤ nI 50) ∧ (nI 0 ≤ p2 ∧ p2 ≤ nI 5))))) := by
  refine x_met (by decide +kernel) rfl (Nat.le_of_ble_eq_true rfl) ?_
  intro xp xe xs xm xbl xme xco F hnm
  refine x_lv [(0, .int p0), (1, .int p1), (2, .int p2)] [0, 1, 2] rfl ?_
  refine x_iload_n F 0 dX4_areTraits_0 rfl ?_
  refine x_iconst F (nI 1) dX4_areTraits_1 (by decide +kernel) ?_
  refine x_bipush F (nI 100) dX4_areTraits_2 (by decide +kernel) ?_
  refine x_callSr F [] [] (c_X4_isWithin l D cA p0 (nI 1) (nI 100)) mwX4_isWithin wmX4_54 rfl rfl (Nat.le_of_ble_eq_true rfl) ⟨by decide, by decide⟩ ⟨by show _ ≤ 0; omega, by show _ ≤ 0; omega⟩ rfl (by decide) dX4_areTraits_4 (fun r1 hp2 => ?_)
  subst hp2
  refine x_if_eq F 31 dX4_areTraits_7 (by decide) (fun h7 => ?_) (fun h7 => ?_)
  · refine x_iconst F (nI 0) dX4_areTraits_31 (by decide +kernel) ?_
    exact x_zret F (by decide +kernel) () (by first | rw [tr_t h7 h17 h24] | rw [tr_f1 h7] | rw [tr_f2 h17] | rw [tr_f3 h24]) (rfl) (by omega) (by omega) dX4_areTraits_32
  · refine x_iload_n F 1 dX4_areTraits_10 rfl ?_
    refine x_iconst F (nI 0) dX4_areTraits_11 (by decide +kernel) ?_
    refine x_bipush F (nI 50) dX4_areTraits_12 (by decide +kernel) ?_
    refine x_callSr F [] [] (c_X4_isWithin l D cA p1 (nI 0) (nI 50)) mwX4_isWithin wmX4_54 rfl rfl (Nat.le_of_ble_eq_true rfl) ⟨by decide, by decide⟩ ⟨by show _ ≤ 0; omega, by show _ ≤ 0; omega⟩ rfl (by decide) dX4_areTraits_14 (fun r3 hp4 => ?_)
    subst hp4
    refine x_if_eq F 31 dX4_areTraits_17 (by decide) (fun h17 => ?_) (fun h17 => ?_)
    · refine x_iconst F (nI 0) dX4_areTraits_31 (by decide +kernel) ?_
      exact x_zret F (by decide +kernel) () (by first | rw [tr_t h7 h17 h24] | rw [tr_f1 h7] | rw [tr_f2 h17] | rw [tr_f3 h24]) (rfl) (by omega) (by omega) dX4_areTraits_32
    · refine x_iload_n F 2 dX4_areTraits_20 rfl ?_
      refine x_callSr F [] [] (c_X4_isRoom l D cA p2) mwX4_isRoom wmX4_51 rfl rfl (Nat.le_of_ble_eq_true rfl) ⟨by decide, by decide⟩ ⟨by show _ ≤ 0; omega, by show _ ≤ 0; omega⟩ rfl (by decide) dX4_areTraits_21 (fun r5 hp6 => ?_)
      subst hp6
      refine x_if_eq F 31 dX4_areTraits_24 (by decide) (fun h24 => ?_) (fun h24 => ?_)
      · refine x_iconst F (nI 0) dX4_areTraits_31 (by decide +kernel) ?_
        exact x_zret F (by decide +kernel) () (by first | rw [tr_t h7 h17 h24] | rw [tr_f1 h7] | rw [tr_f2 h17] | rw [tr_f3 h24]) (rfl) (by omega) (by omega) dX4_areTraits_32
      · refine x_iconst F (nI 1) dX4_areTraits_27 (by decide +kernel) ?_
        refine x_goto F 32 dX4_areTraits_28 (by decide) ?_
        exact x_zret F (by decide +kernel) () (by first | rw [tr_t h7 h17 h24] | rw [tr_f1 h7] | rw [tr_f2 h17] | rw [tr_f3 h24]) (rfl) (by omega) (by omega) dX4_areTraits_32

set_option maxHeartbeats 4000000 in
set_option maxRecDepth 100000 in
theorem c_X5_isTold (l : Launch) (D : va_G) (cA : Nat → ClassId) (p0 p1 p2 : Int32)  : Cr l D cA yX5_isTold cX5_isTold 3 (some .boolean) 1 ([.int p0, .int p1, .int p2] : List Value) ([]) (fun r : Option Value => r = some (.int (bz ((nI 1 ≤ p0 ∧ p0 ≤ nI 100) ∧ (nI 0 ≤ p1 ∧ p1 ≤ nI 50) ∧ (nI 0 ≤ p2 ∧ p2 ≤ nI 5))))) := by
  refine x_met (by decide +kernel) rfl (Nat.le_of_ble_eq_true rfl) ?_
  intro xp xe xs xm xbl xme xco F hnm
  refine x_lv [(0, .int p0), (1, .int p1), (2, .int p2)] [0, 1, 2] rfl ?_
  refine x_iload_n F 0 dX5_isTold_0 rfl ?_
  refine x_iconst F (nI 1) dX5_isTold_1 (by decide +kernel) ?_
  refine x_bipush F (nI 100) dX5_isTold_2 (by decide +kernel) ?_
  refine x_callSr F [] [] (c_X5_in l D cA p0 (nI 1) (nI 100)) mwX5_in wmX5_101 rfl rfl (Nat.le_of_ble_eq_true rfl) ⟨by decide, by decide⟩ ⟨by show _ ≤ 0; omega, by show _ ≤ 0; omega⟩ rfl (by decide) dX5_isTold_4 (fun r1 hp2 => ?_)
  subst hp2
  refine x_if_eq F 33 dX5_isTold_7 (by decide) (fun h7 => ?_) (fun h7 => ?_)
  · refine x_iconst F (nI 0) dX5_isTold_33 (by decide +kernel) ?_
    exact x_zret F (by decide +kernel) () (by first | rw [tr_t h7 h17 h26] | rw [tr_f1 h7] | rw [tr_f2 h17] | rw [tr_f3 h26]) (rfl) (by omega) (by omega) dX5_isTold_34
  · refine x_iload_n F 1 dX5_isTold_10 rfl ?_
    refine x_iconst F (nI 0) dX5_isTold_11 (by decide +kernel) ?_
    refine x_bipush F (nI 50) dX5_isTold_12 (by decide +kernel) ?_
    refine x_callSr F [] [] (c_X5_in l D cA p1 (nI 0) (nI 50)) mwX5_in wmX5_101 rfl rfl (Nat.le_of_ble_eq_true rfl) ⟨by decide, by decide⟩ ⟨by show _ ≤ 0; omega, by show _ ≤ 0; omega⟩ rfl (by decide) dX5_isTold_14 (fun r3 hp4 => ?_)
    subst hp4
    refine x_if_eq F 33 dX5_isTold_17 (by decide) (fun h17 => ?_) (fun h17 => ?_)
    · refine x_iconst F (nI 0) dX5_isTold_33 (by decide +kernel) ?_
      exact x_zret F (by decide +kernel) () (by first | rw [tr_t h7 h17 h26] | rw [tr_f1 h7] | rw [tr_f2 h17] | rw [tr_f3 h26]) (rfl) (by omega) (by omega) dX5_isTold_34
    · refine x_iload_n F 2 dX5_isTold_20 rfl ?_
      refine x_iconst F (nI 0) dX5_isTold_21 (by decide +kernel) ?_
      refine x_iconst F (nI 5) dX5_isTold_22 (by decide +kernel) ?_
      refine x_callSr F [] [] (c_X5_in l D cA p2 (nI 0) (nI 5)) mwX5_in wmX5_101 rfl rfl (Nat.le_of_ble_eq_true rfl) ⟨by decide, by decide⟩ ⟨by show _ ≤ 0; omega, by show _ ≤ 0; omega⟩ rfl (by decide) dX5_isTold_23 (fun r5 hp6 => ?_)
      subst hp6
      refine x_if_eq F 33 dX5_isTold_26 (by decide) (fun h26 => ?_) (fun h26 => ?_)
      · refine x_iconst F (nI 0) dX5_isTold_33 (by decide +kernel) ?_
        exact x_zret F (by decide +kernel) () (by first | rw [tr_t h7 h17 h26] | rw [tr_f1 h7] | rw [tr_f2 h17] | rw [tr_f3 h26]) (rfl) (by omega) (by omega) dX5_isTold_34
      · refine x_iconst F (nI 1) dX5_isTold_29 (by decide +kernel) ?_
        refine x_goto F 34 dX5_isTold_30 (by decide) ?_
        exact x_zret F (by decide +kernel) () (by first | rw [tr_t h7 h17 h26] | rw [tr_f1 h7] | rw [tr_f2 h17] | rw [tr_f3 h26]) (rfl) (by omega) (by omega) dX5_isTold_34

theorem bt_1 {h s h2 s2 : Int32} (a : h < h2) : bz (h < h2 ∨ h = h2 ∧ s < s2) = nI 1 := bz_t (Or.inl a)
theorem bt_2 {h s h2 s2 : Int32} (a : h = h2) (b : s < s2) : bz (h < h2 ∨ h = h2 ∧ s < s2) = nI 1 := bz_t (Or.inr ⟨a, b⟩)
theorem bt_3 {h s h2 s2 : Int32} (a : ¬ h < h2) (b : ¬ h = h2) : bz (h < h2 ∨ h = h2 ∧ s < s2) = nI 0 := bz_f (fun z => z.elim a (fun z => b z.1))
theorem bt_4 {h s h2 s2 : Int32} (a : ¬ h < h2) (b : ¬ s < s2) : bz (h < h2 ∨ h = h2 ∧ s < s2) = nI 0 := bz_f (fun z => z.elim a (fun z => b z.2))
theorem bt_1' {h s h2 s2 : Int32} (a : ¬ h2 ≤ h) : bz (h < h2 ∨ h = h2 ∧ s < s2) = nI 1 := bt_1 (Int32.not_le.mp a)
theorem bt_2' {h s h2 s2 : Int32} (a : h = h2) (b : ¬ s2 ≤ s) : bz (h < h2 ∨ h = h2 ∧ s < s2) = nI 1 := bt_2 a (Int32.not_le.mp b)
theorem bt_4' {h s h2 s2 : Int32} (a : ¬ h < h2) (b : s2 ≤ s) : bz (h < h2 ∨ h = h2 ∧ s < s2) = nI 0 := bt_4 a (Int32.not_lt.mpr b)
set_option maxHeartbeats 4000000 in
set_option maxRecDepth 100000 in
theorem c_X5_isBetter (l : Launch) (D : va_G) (cA : Nat → ClassId) (p0 p1 p2 p3 : Int32)  : Cr l D cA yX5_isBetter cX5_isBetter 4 (some .boolean) 0 ([.int p0, .int p1, .int p2, .int p3] : List Value) ([]) (fun r : Option Value => r = some (.int (bz (p0 < p2 ∨ p0 = p2 ∧ p1 < p3)))) := by
  refine x_met (by decide +kernel) rfl (Nat.le_of_ble_eq_true rfl) ?_
  intro xp xe xs xm xbl xme xco F hnm
  refine x_lv [(0, .int p0), (1, .int p1), (2, .int p2), (3, .int p3)] [0, 1, 2, 3] rfl ?_
  refine x_iload_n F 0 dX5_isBetter_0 rfl ?_
  refine x_iload_n F 2 dX5_isBetter_1 rfl ?_
  refine x_icmp_lt F 15 dX5_isBetter_2 (by decide) (fun h2 => ?_) (fun h2 => ?_)
  · refine x_iconst F (nI 1) dX5_isBetter_15 (by decide +kernel) ?_
    refine x_goto F 20 dX5_isBetter_16 (by decide) ?_
    exact x_zret F (by decide +kernel) () (by first | rw [bt_1 h2] | rw [bt_3 h2 h7] | rw [bt_2 h7 h12] | rw [bt_4 h2 h12] | rw [bt_2' h7 h12] | rw [bt_4' h2 h12]) (rfl) (by omega) (by omega) dX5_isBetter_20
  · refine x_iload_n F 0 dX5_isBetter_5 rfl ?_
    refine x_iload_n F 2 dX5_isBetter_6 rfl ?_
    refine x_icmp_ne F 19 dX5_isBetter_7 (by decide) (fun h7 => ?_) (fun h7 => ?_)
    · refine x_iconst F (nI 0) dX5_isBetter_19 (by decide +kernel) ?_
      exact x_zret F (by decide +kernel) () (by first | rw [bt_1 h2] | rw [bt_3 h2 h7] | rw [bt_2 h7 h12] | rw [bt_4 h2 h12] | rw [bt_2' h7 h12] | rw [bt_4' h2 h12]) (rfl) (by omega) (by omega) dX5_isBetter_20
    · refine x_iload_n F 1 dX5_isBetter_10 rfl ?_
      refine x_iload_n F 3 dX5_isBetter_11 rfl ?_
      refine x_icmp_ge F 19 dX5_isBetter_12 (by decide) (fun h12 => ?_) (fun h12 => ?_)
      · refine x_iconst F (nI 0) dX5_isBetter_19 (by decide +kernel) ?_
        exact x_zret F (by decide +kernel) () (by first | rw [bt_1 h2] | rw [bt_3 h2 h7] | rw [bt_2 h7 h12] | rw [bt_4 h2 h12] | rw [bt_2' h7 h12] | rw [bt_4' h2 h12]) (rfl) (by omega) (by omega) dX5_isBetter_20
      · refine x_iconst F (nI 1) dX5_isBetter_15 (by decide +kernel) ?_
        refine x_goto F 20 dX5_isBetter_16 (by decide) ?_
        exact x_zret F (by decide +kernel) () (by first | rw [bt_1 h2] | rw [bt_3 h2 h7] | rw [bt_2 h7 h12] | rw [bt_4 h2 h12] | rw [bt_2' h7 h12] | rw [bt_4' h2 h12]) (rfl) (by omega) (by omega) dX5_isBetter_20

set_option maxHeartbeats 4000000 in
set_option maxRecDepth 100000 in
theorem c_X4_scoreFrom (l : Launch) (D : va_G) (cA : Nat → ClassId) (p0 p1 : Int32)  : Cr l D cA yX4_scoreFrom cX4_scoreFrom 2 (some .long) 0 ([.int p0, .int p1] : List Value) ([]) (fun r : Option Value => r = some (.long (p0.toInt64 <<< ((nI 32).toInt64 &&& 63) + p1.toInt64))) := by
  refine x_met (by decide +kernel) rfl (Nat.le_of_ble_eq_true rfl) ?_
  intro xp xe xs xm xbl xme xco F hnm
  refine x_lv [(0, .int p0), (1, .int p1)] [0, 1] rfl ?_
  refine x_iload_n F 0 dX4_scoreFrom_0 rfl ?_
  refine x_i2l F p0.toInt64 dX4_scoreFrom_1 rfl ?_
  refine x_bipush F (nI 32) dX4_scoreFrom_2 (by decide +kernel) ?_
  refine x_lshl F (p0.toInt64 <<< ((nI 32).toInt64 &&& 63)) dX4_scoreFrom_4 rfl ?_
  refine x_iload_n F 1 dX4_scoreFrom_5 rfl ?_
  refine x_i2l F p1.toInt64 dX4_scoreFrom_6 rfl ?_
  refine x_ladd F ((p0.toInt64 <<< ((nI 32).toInt64 &&& 63)) + p1.toInt64) dX4_scoreFrom_7 rfl ?_
  exact x_lret F () (rfl) (rfl) (by omega) (by omega) dX4_scoreFrom_8

set_option maxHeartbeats 4000000 in
set_option maxRecDepth 100000 in
theorem c_X4_partOf (l : Launch) (D : va_G) (cA : Nat → ClassId) (p0 : Int64) (p1 : Int32)  : Cr l D cA yX4_partOf cX4_partOf 3 (some .int) 0 ([.long p0, .int p1] : List Value) ([]) (fun r : Option Value => r = some (.int (if p1 = 0 then p0.toInt32 else (p0 >>> ((nI 32).toInt64 &&& 63)).toInt32))) := by
  refine x_met (by decide +kernel) rfl (Nat.le_of_ble_eq_true rfl) ?_
  intro xp xe xs xm xbl xme xco F hnm
  refine x_lv [(0, .long p0), (2, .int p1)] [0, 1] rfl ?_
  refine x_iload_n F 1 dX4_partOf_0 rfl ?_
  refine x_if_eq F 12 dX4_partOf_1 (by decide) (fun h1 => ?_) (fun h1 => ?_)
  · refine x_lload_n F 0 dX4_partOf_12 rfl ?_
    refine x_l2i F p0.toInt32 dX4_partOf_13 rfl ?_
    exact x_iret F () (by first | rw [if_pos h1] | rw [if_neg h1]) (rfl) (by omega) (by omega) dX4_partOf_14
  · refine x_lload_n F 0 dX4_partOf_4 rfl ?_
    refine x_bipush F (nI 32) dX4_partOf_5 (by decide +kernel) ?_
    refine x_lshr F (p0 >>> ((nI 32).toInt64 &&& 63)) dX4_partOf_7 rfl ?_
    refine x_l2i F ((p0 >>> ((nI 32).toInt64 &&& 63)).toInt32) dX4_partOf_8 rfl ?_
    refine x_goto F 14 dX4_partOf_9 (by decide) ?_
    exact x_iret F () (by first | rw [if_pos h1] | rw [if_neg h1]) (rfl) (by omega) (by omega) dX4_partOf_14

/-- Integer.bitCount, as its code has it -/
def bcnt (x : Int32) : Int32 :=
  let sh := fun (a b : Int32) => (a.toUInt32 >>> (b.toUInt32 &&& Int32.toUInt32 31)).toInt32
  let a := x - (sh x (nI 1) &&& nI 1431655765)
  let b := (a &&& nI 858993459) + (sh a (nI 2) &&& nI 858993459)
  let c := (b + sh b (nI 4)) &&& nI 252645135
  let d := c + sh c (nI 8)
  let e := d + sh d (nI 16)
  e &&& nI 63
set_option maxHeartbeats 4000000 in
set_option maxRecDepth 100000 in
theorem c_J6_bitCount_0f7a4 (l : Launch) (D : va_G) (cA : Nat → ClassId) (p0 : Int32)  : Cr l D cA yJ6_bitCount_0f7a4 cJ6_bitCount_0f7a4 1 (some .int) 0 ([.int p0] : List Value) ([]) (fun r : Option Value => r = some (.int (bcnt p0))) := by
  refine x_met (by decide +kernel) rfl (Nat.le_of_ble_eq_true rfl) ?_
  intro xp xe xs xm xbl xme xco F hnm
  refine x_lv [(0, .int p0)] [0] rfl ?_
  refine x_iload_n F 0 dJ6_bitCount_0f7a4_0 rfl ?_
  refine x_iload_n F 0 dJ6_bitCount_0f7a4_1 rfl ?_
  refine x_iconst F (nI 1) dJ6_bitCount_0f7a4_2 (by decide +kernel) ?_
  refine x_iushr F ((p0.toUInt32 >>> ((nI 1).toUInt32 &&& Int32.toUInt32 31)).toInt32) dJ6_bitCount_0f7a4_3 rfl ?_
  refine x_ldcw F (1431655765) wvJ6_265 dJ6_bitCount_0f7a4_4 ?_
  refine x_top (nI 1431655765) (by decide +kernel) ?_
  refine x_iand F (((p0.toUInt32 >>> ((nI 1).toUInt32 &&& Int32.toUInt32 31)).toInt32) &&& (nI 1431655765)) dJ6_bitCount_0f7a4_7 rfl ?_
  refine x_isub F (p0 - (((p0.toUInt32 >>> ((nI 1).toUInt32 &&& Int32.toUInt32 31)).toInt32) &&& (nI 1431655765))) dJ6_bitCount_0f7a4_8 rfl ?_
  refine x_istore_n F [(0, .int (p0 - (((p0.toUInt32 >>> ((nI 1).toUInt32 &&& Int32.toUInt32 31)).toInt32) &&& (nI 1431655765))))] dJ6_bitCount_0f7a4_9 (by decide) rfl ?_
  refine x_iload_n F 0 dJ6_bitCount_0f7a4_10 rfl ?_
  refine x_ldcw F (858993459) wvJ6_266 dJ6_bitCount_0f7a4_11 ?_
  refine x_top (nI 858993459) (by decide +kernel) ?_
  refine x_iand F ((p0 - (((p0.toUInt32 >>> ((nI 1).toUInt32 &&& Int32.toUInt32 31)).toInt32) &&& (nI 1431655765))) &&& (nI 858993459)) dJ6_bitCount_0f7a4_14 rfl ?_
  refine x_iload_n F 0 dJ6_bitCount_0f7a4_15 rfl ?_
  refine x_iconst F (nI 2) dJ6_bitCount_0f7a4_16 (by decide +kernel) ?_
  refine x_iushr F (((p0 - (((p0.toUInt32 >>> ((nI 1).toUInt32 &&& Int32.toUInt32 31)).toInt32) &&& (nI 1431655765))).toUInt32 >>> ((nI 2).toUInt32 &&& Int32.toUInt32 31)).toInt32) dJ6_bitCount_0f7a4_17 rfl ?_
  refine x_ldcw F (858993459) wvJ6_266 dJ6_bitCount_0f7a4_18 ?_
  refine x_top (nI 858993459) (by decide +kernel) ?_
  refine x_iand F ((((p0 - (((p0.toUInt32 >>> ((nI 1).toUInt32 &&& Int32.toUInt32 31)).toInt32) &&& (nI 1431655765))).toUInt32 >>> ((nI 2).toUInt32 &&& Int32.toUInt32 31)).toInt32) &&& (nI 858993459)) dJ6_bitCount_0f7a4_21 rfl ?_
  refine x_iadd F (((p0 - (((p0.toUInt32 >>> ((nI 1).toUInt32 &&& Int32.toUInt32 31)).toInt32) &&& (nI 1431655765))) &&& (nI 858993459)) + ((((p0 - (((p0.toUInt32 >>> ((nI 1).toUInt32 &&& Int32.toUInt32 31)).toInt32) &&& (nI 1431655765))).toUInt32 >>> ((nI 2).toUInt32 &&& Int32.toUInt32 31)).toInt32) &&& (nI 858993459))) dJ6_bitCount_0f7a4_22 rfl ?_
  refine x_istore_n F [(0, .int (((p0 - (((p0.toUInt32 >>> ((nI 1).toUInt32 &&& Int32.toUInt32 31)).toInt32) &&& (nI 1431655765))) &&& (nI 858993459)) + ((((p0 - (((p0.toUInt32 >>> ((nI 1).toUInt32 &&& Int32.toUInt32 31)).toInt32) &&& (nI 1431655765))).toUInt32 >>> ((nI 2).toUInt32 &&& Int32.toUInt32 31)).toInt32) &&& (nI 858993459))))] dJ6_bitCount_0f7a4_23 (by decide) rfl ?_
  refine x_iload_n F 0 dJ6_bitCount_0f7a4_24 rfl ?_
  refine x_iload_n F 0 dJ6_bitCount_0f7a4_25 rfl ?_
  refine x_iconst F (nI 4) dJ6_bitCount_0f7a4_26 (by decide +kernel) ?_
  refine x_iushr F (((((p0 - (((p0.toUInt32 >>> ((nI 1).toUInt32 &&& Int32.toUInt32 31)).toInt32) &&& (nI 1431655765))) &&& (nI 858993459)) + ((((p0 - (((p0.toUInt32 >>> ((nI 1).toUInt32 &&& Int32.toUInt32 31)).toInt32) &&& (nI 1431655765))).toUInt32 >>> ((nI 2).toUInt32 &&& Int32.toUInt32 31)).toInt32) &&& (nI 858993459))).toUInt32 >>> ((nI 4).toUInt32 &&& Int32.toUInt32 31)).toInt32) dJ6_bitCount_0f7a4_27 rfl ?_
  refine x_iadd F ((((p0 - (((p0.toUInt32 >>> ((nI 1).toUInt32 &&& Int32.toUInt32 31)).toInt32) &&& (nI 1431655765))) &&& (nI 858993459)) + ((((p0 - (((p0.toUInt32 >>> ((nI 1).toUInt32 &&& Int32.toUInt32 31)).toInt32) &&& (nI 1431655765))).toUInt32 >>> ((nI 2).toUInt32 &&& Int32.toUInt32 31)).toInt32) &&& (nI 858993459))) + (((((p0 - (((p0.toUInt32 >>> ((nI 1).toUInt32 &&& Int32.toUInt32 31)).toInt32) &&& (nI 1431655765))) &&& (nI 858993459)) + ((((p0 - (((p0.toUInt32 >>> ((nI 1).toUInt32 &&& Int32.toUInt32 31)).toInt32) &&& (nI 1431655765))).toUInt32 >>> ((nI 2).toUInt32 &&& Int32.toUInt32 31)).toInt32) &&& (nI 858993459))).toUInt32 >>> ((nI 4).toUInt32 &&& Int32.toUInt32 31)).toInt32)) dJ6_bitCount_0f7a4_28 rfl ?_
  refine x_ldcw F (252645135) wvJ6_267 dJ6_bitCount_0f7a4_29 ?_
  refine x_top (nI 252645135) (by decide +kernel) ?_
  refine x_iand F (((((p0 - (((p0.toUInt32 >>> ((nI 1).toUInt32 &&& Int32.toUInt32 31)).toInt32) &&& (nI 1431655765))) &&& (nI 858993459)) + ((((p0 - (((p0.toUInt32 >>> ((nI 1).toUInt32 &&& Int32.toUInt32 31)).toInt32) &&& (nI 1431655765))).toUInt32 >>> ((nI 2).toUInt32 &&& Int32.toUInt32 31)).toInt32) &&& (nI 858993459))) + (((((p0 - (((p0.toUInt32 >>> ((nI 1).toUInt32 &&& Int32.toUInt32 31)).toInt32) &&& (nI 1431655765))) &&& (nI 858993459)) + ((((p0 - (((p0.toUInt32 >>> ((nI 1).toUInt32 &&& Int32.toUInt32 31)).toInt32) &&& (nI 1431655765))).toUInt32 >>> ((nI 2).toUInt32 &&& Int32.toUInt32 31)).toInt32) &&& (nI 858993459))).toUInt32 >>> ((nI 4).toUInt32 &&& Int32.toUInt32 31)).toInt32)) &&& (nI 252645135)) dJ6_bitCount_0f7a4_32 rfl ?_
  refine x_istore_n F [(0, .int (((((p0 - (((p0.toUInt32 >>> ((nI 1).toUInt32 &&& Int32.toUInt32 31)).toInt32) &&& (nI 1431655765))) &&& (nI 858993459)) + ((((p0 - (((p0.toUInt32 >>> ((nI 1).toUInt32 &&& Int32.toUInt32 31)).toInt32) &&& (nI 1431655765))).toUInt32 >>> ((nI 2).toUInt32 &&& Int32.toUInt32 31)).toInt32) &&& (nI 858993459))) + (((((p0 - (((p0.toUInt32 >>> ((nI 1).toUInt32 &&& Int32.toUInt32 31)).toInt32) &&& (nI 1431655765))) &&& (nI 858993459)) + ((((p0 - (((p0.toUInt32 >>> ((nI 1).toUInt32 &&& Int32.toUInt32 31)).toInt32) &&& (nI 1431655765))).toUInt32 >>> ((nI 2).toUInt32 &&& Int32.toUInt32 31)).toInt32) &&& (nI 858993459))).toUInt32 >>> ((nI 4).toUInt32 &&& Int32.toUInt32 31)).toInt32)) &&& (nI 252645135)))] dJ6_bitCount_0f7a4_33 (by decide) rfl ?_
  refine x_iload_n F 0 dJ6_bitCount_0f7a4_34 rfl ?_
  refine x_iload_n F 0 dJ6_bitCount_0f7a4_35 rfl ?_
  refine x_bipush F (nI 8) dJ6_bitCount_0f7a4_36 (by decide +kernel) ?_
  refine x_iushr F (((((((p0 - (((p0.toUInt32 >>> ((nI 1).toUInt32 &&& Int32.toUInt32 31)).toInt32) &&& (nI 1431655765))) &&& (nI 858993459)) + ((((p0 - (((p0.toUInt32 >>> ((nI 1).toUInt32 &&& Int32.toUInt32 31)).toInt32) &&& (nI 1431655765))).toUInt32 >>> ((nI 2).toUInt32 &&& Int32.toUInt32 31)).toInt32) &&& (nI 858993459))) + (((((p0 - (((p0.toUInt32 >>> ((nI 1).toUInt32 &&& Int32.toUInt32 31)).toInt32) &&& (nI 1431655765))) &&& (nI 858993459)) + ((((p0 - (((p0.toUInt32 >>> ((nI 1).toUInt32 &&& Int32.toUInt32 31)).toInt32) &&& (nI 1431655765))).toUInt32 >>> ((nI 2).toUInt32 &&& Int32.toUInt32 31)).toInt32) &&& (nI 858993459))).toUInt32 >>> ((nI 4).toUInt32 &&& Int32.toUInt32 31)).toInt32)) &&& (nI 252645135)).toUInt32 >>> ((nI 8).toUInt32 &&& Int32.toUInt32 31)).toInt32) dJ6_bitCount_0f7a4_38 rfl ?_
  refine x_iadd F ((((((p0 - (((p0.toUInt32 >>> ((nI 1).toUInt32 &&& Int32.toUInt32 31)).toInt32) &&& (nI 1431655765))) &&& (nI 858993459)) + ((((p0 - (((p0.toUInt32 >>> ((nI 1).toUInt32 &&& Int32.toUInt32 31)).toInt32) &&& (nI 1431655765))).toUInt32 >>> ((nI 2).toUInt32 &&& Int32.toUInt32 31)).toInt32) &&& (nI 858993459))) + (((((p0 - (((p0.toUInt32 >>> ((nI 1).toUInt32 &&& Int32.toUInt32 31)).toInt32) &&& (nI 1431655765))) &&& (nI 858993459)) + ((((p0 - (((p0.toUInt32 >>> ((nI 1).toUInt32 &&& Int32.toUInt32 31)).toInt32) &&& (nI 1431655765))).toUInt32 >>> ((nI 2).toUInt32 &&& Int32.toUInt32 31)).toInt32) &&& (nI 858993459))).toUInt32 >>> ((nI 4).toUInt32 &&& Int32.toUInt32 31)).toInt32)) &&& (nI 252645135)) + (((((((p0 - (((p0.toUInt32 >>> ((nI 1).toUInt32 &&& Int32.toUInt32 31)).toInt32) &&& (nI 1431655765))) &&& (nI 858993459)) + ((((p0 - (((p0.toUInt32 >>> ((nI 1).toUInt32 &&& Int32.toUInt32 31)).toInt32) &&& (nI 1431655765))).toUInt32 >>> ((nI 2).toUInt32 &&& Int32.toUInt32 31)).toInt32) &&& (nI 858993459))) + (((((p0 - (((p0.toUInt32 >>> ((nI 1).toUInt32 &&& Int32.toUInt32 31)).toInt32) &&& (nI 1431655765))) &&& (nI 858993459)) + ((((p0 - (((p0.toUInt32 >>> ((nI 1).toUInt32 &&& Int32.toUInt32 31)).toInt32) &&& (nI 1431655765))).toUInt32 >>> ((nI 2).toUInt32 &&& Int32.toUInt32 31)).toInt32) &&& (nI 858993459))).toUInt32 >>> ((nI 4).toUInt32 &&& Int32.toUInt32 31)).toInt32)) &&& (nI 252645135)).toUInt32 >>> ((nI 8).toUInt32 &&& Int32.toUInt32 31)).toInt32)) dJ6_bitCount_0f7a4_39 rfl ?_
  refine x_istore_n F [(0, .int ((((((p0 - (((p0.toUInt32 >>> ((nI 1).toUInt32 &&& Int32.toUInt32 31)).toInt32) &&& (nI 1431655765))) &&& (nI 858993459)) + ((((p0 - (((p0.toUInt32 >>> ((nI 1).toUInt32 &&& Int32.toUInt32 31)).toInt32) &&& (nI 1431655765))).toUInt32 >>> ((nI 2).toUInt32 &&& Int32.toUInt32 31)).toInt32) &&& (nI 858993459))) + (((((p0 - (((p0.toUInt32 >>> ((nI 1).toUInt32 &&& Int32.toUInt32 31)).toInt32) &&& (nI 1431655765))) &&& (nI 858993459)) + ((((p0 - (((p0.toUInt32 >>> ((nI 1).toUInt32 &&& Int32.toUInt32 31)).toInt32) &&& (nI 1431655765))).toUInt32 >>> ((nI 2).toUInt32 &&& Int32.toUInt32 31)).toInt32) &&& (nI 858993459))).toUInt32 >>> ((nI 4).toUInt32 &&& Int32.toUInt32 31)).toInt32)) &&& (nI 252645135)) + (((((((p0 - (((p0.toUInt32 >>> ((nI 1).toUInt32 &&& Int32.toUInt32 31)).toInt32) &&& (nI 1431655765))) &&& (nI 858993459)) + ((((p0 - (((p0.toUInt32 >>> ((nI 1).toUInt32 &&& Int32.toUInt32 31)).toInt32) &&& (nI 1431655765))).toUInt32 >>> ((nI 2).toUInt32 &&& Int32.toUInt32 31)).toInt32) &&& (nI 858993459))) + (((((p0 - (((p0.toUInt32 >>> ((nI 1).toUInt32 &&& Int32.toUInt32 31)).toInt32) &&& (nI 1431655765))) &&& (nI 858993459)) + ((((p0 - (((p0.toUInt32 >>> ((nI 1).toUInt32 &&& Int32.toUInt32 31)).toInt32) &&& (nI 1431655765))).toUInt32 >>> ((nI 2).toUInt32 &&& Int32.toUInt32 31)).toInt32) &&& (nI 858993459))).toUInt32 >>> ((nI 4).toUInt32 &&& Int32.toUInt32 31)).toInt32)) &&& (nI 252645135)).toUInt32 >>> ((nI 8).toUInt32 &&& Int32.toUInt32 31)).toInt32)))] dJ6_bitCount_0f7a4_40 (by decide) rfl ?_
  refine x_iload_n F 0 dJ6_bitCount_0f7a4_41 rfl ?_
  refine x_iload_n F 0 dJ6_bitCount_0f7a4_42 rfl ?_
  refine x_bipush F (nI 16) dJ6_bitCount_0f7a4_43 (by decide +kernel) ?_
  refine x_iushr F ((((((((p0 - (((p0.toUInt32 >>> ((nI 1).toUInt32 &&& Int32.toUInt32 31)).toInt32) &&& (nI 1431655765))) &&& (nI 858993459)) + ((((p0 - (((p0.toUInt32 >>> ((nI 1).toUInt32 &&& Int32.toUInt32 31)).toInt32) &&& (nI 1431655765))).toUInt32 >>> ((nI 2).toUInt32 &&& Int32.toUInt32 31)).toInt32) &&& (nI 858993459))) + (((((p0 - (((p0.toUInt32 >>> ((nI 1).toUInt32 &&& Int32.toUInt32 31)).toInt32) &&& (nI 1431655765))) &&& (nI 858993459)) + ((((p0 - (((p0.toUInt32 >>> ((nI 1).toUInt32 &&& Int32.toUInt32 31)).toInt32) &&& (nI 1431655765))).toUInt32 >>> ((nI 2).toUInt32 &&& Int32.toUInt32 31)).toInt32) &&& (nI 858993459))).toUInt32 >>> ((nI 4).toUInt32 &&& Int32.toUInt32 31)).toInt32)) &&& (nI 252645135)) + (((((((p0 - (((p0.toUInt32 >>> ((nI 1).toUInt32 &&& Int32.toUInt32 31)).toInt32) &&& (nI 1431655765))) &&& (nI 858993459)) + ((((p0 - (((p0.toUInt32 >>> ((nI 1).toUInt32 &&& Int32.toUInt32 31)).toInt32) &&& (nI 1431655765))).toUInt32 >>> ((nI 2).toUInt32 &&& Int32.toUInt32 31)).toInt32) &&& (nI 858993459))) + (((((p0 - (((p0.toUInt32 >>> ((nI 1).toUInt32 &&& Int32.toUInt32 31)).toInt32) &&& (nI 1431655765))) &&& (nI 858993459)) + ((((p0 - (((p0.toUInt32 >>> ((nI 1).toUInt32 &&& Int32.toUInt32 31)).toInt32) &&& (nI 1431655765))).toUInt32 >>> ((nI 2).toUInt32 &&& Int32.toUInt32 31)).toInt32) &&& (nI 858993459))).toUInt32 >>> ((nI 4).toUInt32 &&& Int32.toUInt32 31)).toInt32)) &&& (nI 252645135)).toUInt32 >>> ((nI 8).toUInt32 &&& Int32.toUInt32 31)).toInt32)).toUInt32 >>> ((nI 16).toUInt32 &&& Int32.toUInt32 31)).toInt32) dJ6_bitCount_0f7a4_45 rfl ?_
  refine x_iadd F (((((((p0 - (((p0.toUInt32 >>> ((nI 1).toUInt32 &&& Int32.toUInt32 31)).toInt32) &&& (nI 1431655765))) &&& (nI 858993459)) + ((((p0 - (((p0.toUInt32 >>> ((nI 1).toUInt32 &&& Int32.toUInt32 31)).toInt32) &&& (nI 1431655765))).toUInt32 >>> ((nI 2).toUInt32 &&& Int32.toUInt32 31)).toInt32) &&& (nI 858993459))) + (((((p0 - (((p0.toUInt32 >>> ((nI 1).toUInt32 &&& Int32.toUInt32 31)).toInt32) &&& (nI 1431655765))) &&& (nI 858993459)) + ((((p0 - (((p0.toUInt32 >>> ((nI 1).toUInt32 &&& Int32.toUInt32 31)).toInt32) &&& (nI 1431655765))).toUInt32 >>> ((nI 2).toUInt32 &&& Int32.toUInt32 31)).toInt32) &&& (nI 858993459))).toUInt32 >>> ((nI 4).toUInt32 &&& Int32.toUInt32 31)).toInt32)) &&& (nI 252645135)) + (((((((p0 - (((p0.toUInt32 >>> ((nI 1).toUInt32 &&& Int32.toUInt32 31)).toInt32) &&& (nI 1431655765))) &&& (nI 858993459)) + ((((p0 - (((p0.toUInt32 >>> ((nI 1).toUInt32 &&& Int32.toUInt32 31)).toInt32) &&& (nI 1431655765))).toUInt32 >>> ((nI 2).toUInt32 &&& Int32.toUInt32 31)).toInt32) &&& (nI 858993459))) + (((((p0 - (((p0.toUInt32 >>> ((nI 1).toUInt32 &&& Int32.toUInt32 31)).toInt32) &&& (nI 1431655765))) &&& (nI 858993459)) + ((((p0 - (((p0.toUInt32 >>> ((nI 1).toUInt32 &&& Int32.toUInt32 31)).toInt32) &&& (nI 1431655765))).toUInt32 >>> ((nI 2).toUInt32 &&& Int32.toUInt32 31)).toInt32) &&& (nI 858993459))).toUInt32 >>> ((nI 4).toUInt32 &&& Int32.toUInt32 31)).toInt32)) &&& (nI 252645135)).toUInt32 >>> ((nI 8).toUInt32 &&& Int32.toUInt32 31)).toInt32)) + ((((((((p0 - (((p0.toUInt32 >>> ((nI 1).toUInt32 &&& Int32.toUInt32 31)).toInt32) &&& (nI 1431655765))) &&& (nI 858993459)) + ((((p0 - (((p0.toUInt32 >>> ((nI 1).toUInt32 &&& Int32.toUInt32 31)).toInt32) &&& (nI 1431655765))).toUInt32 >>> ((nI 2).toUInt32 &&& Int32.toUInt32 31)).toInt32) &&& (nI 858993459))) + (((((p0 - (((p0.toUInt32 >>> ((nI 1).toUInt32 &&& Int32.toUInt32 31)).toInt32) &&& (nI 1431655765))) &&& (nI 858993459)) + ((((p0 - (((p0.toUInt32 >>> ((nI 1).toUInt32 &&& Int32.toUInt32 31)).toInt32) &&& (nI 1431655765))).toUInt32 >>> ((nI 2).toUInt32 &&& Int32.toUInt32 31)).toInt32) &&& (nI 858993459))).toUInt32 >>> ((nI 4).toUInt32 &&& Int32.toUInt32 31)).toInt32)) &&& (nI 252645135)) + (((((((p0 - (((p0.toUInt32 >>> ((nI 1).toUInt32 &&& Int32.toUInt32 31)).toInt32) &&& (nI 1431655765))) &&& (nI 858993459)) + ((((p0 - (((p0.toUInt32 >>> ((nI 1).toUInt32 &&& Int32.toUInt32 31)).toInt32) &&& (nI 1431655765))).toUInt32 >>> ((nI 2).toUInt32 &&& Int32.toUInt32 31)).toInt32) &&& (nI 858993459))) + (((((p0 - (((p0.toUInt32 >>> ((nI 1).toUInt32 &&& Int32.toUInt32 31)).toInt32) &&& (nI 1431655765))) &&& (nI 858993459)) + ((((p0 - (((p0.toUInt32 >>> ((nI 1).toUInt32 &&& Int32.toUInt32 31)).toInt32) &&& (nI 1431655765))).toUInt32 >>> ((nI 2).toUInt32 &&& Int32.toUInt32 31)).toInt32) &&& (nI 858993459))).toUInt32 >>> ((nI 4).toUInt32 &&& Int32.toUInt32 31)).toInt32)) &&& (nI 252645135)).toUInt32 >>> ((nI 8).toUInt32 &&& Int32.toUInt32 31)).toInt32)).toUInt32 >>> ((nI 16).toUInt32 &&& Int32.toUInt32 31)).toInt32)) dJ6_bitCount_0f7a4_46 rfl ?_
  refine x_istore_n F [(0, .int (((((((p0 - (((p0.toUInt32 >>> ((nI 1).toUInt32 &&& Int32.toUInt32 31)).toInt32) &&& (nI 1431655765))) &&& (nI 858993459)) + ((((p0 - (((p0.toUInt32 >>> ((nI 1).toUInt32 &&& Int32.toUInt32 31)).toInt32) &&& (nI 1431655765))).toUInt32 >>> ((nI 2).toUInt32 &&& Int32.toUInt32 31)).toInt32) &&& (nI 858993459))) + (((((p0 - (((p0.toUInt32 >>> ((nI 1).toUInt32 &&& Int32.toUInt32 31)).toInt32) &&& (nI 1431655765))) &&& (nI 858993459)) + ((((p0 - (((p0.toUInt32 >>> ((nI 1).toUInt32 &&& Int32.toUInt32 31)).toInt32) &&& (nI 1431655765))).toUInt32 >>> ((nI 2).toUInt32 &&& Int32.toUInt32 31)).toInt32) &&& (nI 858993459))).toUInt32 >>> ((nI 4).toUInt32 &&& Int32.toUInt32 31)).toInt32)) &&& (nI 252645135)) + (((((((p0 - (((p0.toUInt32 >>> ((nI 1).toUInt32 &&& Int32.toUInt32 31)).toInt32) &&& (nI 1431655765))) &&& (nI 858993459)) + ((((p0 - (((p0.toUInt32 >>> ((nI 1).toUInt32 &&& Int32.toUInt32 31)).toInt32) &&& (nI 1431655765))).toUInt32 >>> ((nI 2).toUInt32 &&& Int32.toUInt32 31)).toInt32) &&& (nI 858993459))) + (((((p0 - (((p0.toUInt32 >>> ((nI 1).toUInt32 &&& Int32.toUInt32 31)).toInt32) &&& (nI 1431655765))) &&& (nI 858993459)) + ((((p0 - (((p0.toUInt32 >>> ((nI 1).toUInt32 &&& Int32.toUInt32 31)).toInt32) &&& (nI 1431655765))).toUInt32 >>> ((nI 2).toUInt32 &&& Int32.toUInt32 31)).toInt32) &&& (nI 858993459))).toUInt32 >>> ((nI 4).toUInt32 &&& Int32.toUInt32 31)).toInt32)) &&& (nI 252645135)).toUInt32 >>> ((nI 8).toUInt32 &&& Int32.toUInt32 31)).toInt32)) + ((((((((p0 - (((p0.toUInt32 >>> ((nI 1).toUInt32 &&& Int32.toUInt32 31)).toInt32) &&& (nI 1431655765))) &&& (nI 858993459)) + ((((p0 - (((p0.toUInt32 >>> ((nI 1).toUInt32 &&& Int32.toUInt32 31)).toInt32) &&& (nI 1431655765))).toUInt32 >>> ((nI 2).toUInt32 &&& Int32.toUInt32 31)).toInt32) &&& (nI 858993459))) + (((((p0 - (((p0.toUInt32 >>> ((nI 1).toUInt32 &&& Int32.toUInt32 31)).toInt32) &&& (nI 1431655765))) &&& (nI 858993459)) + ((((p0 - (((p0.toUInt32 >>> ((nI 1).toUInt32 &&& Int32.toUInt32 31)).toInt32) &&& (nI 1431655765))).toUInt32 >>> ((nI 2).toUInt32 &&& Int32.toUInt32 31)).toInt32) &&& (nI 858993459))).toUInt32 >>> ((nI 4).toUInt32 &&& Int32.toUInt32 31)).toInt32)) &&& (nI 252645135)) + (((((((p0 - (((p0.toUInt32 >>> ((nI 1).toUInt32 &&& Int32.toUInt32 31)).toInt32) &&& (nI 1431655765))) &&& (nI 858993459)) + ((((p0 - (((p0.toUInt32 >>> ((nI 1).toUInt32 &&& Int32.toUInt32 31)).toInt32) &&& (nI 1431655765))).toUInt32 >>> ((nI 2).toUInt32 &&& Int32.toUInt32 31)).toInt32) &&& (nI 858993459))) + (((((p0 - (((p0.toUInt32 >>> ((nI 1).toUInt32 &&& Int32.toUInt32 31)).toInt32) &&& (nI 1431655765))) &&& (nI 858993459)) + ((((p0 - (((p0.toUInt32 >>> ((nI 1).toUInt32 &&& Int32.toUInt32 31)).toInt32) &&& (nI 1431655765))).toUInt32 >>> ((nI 2).toUInt32 &&& Int32.toUInt32 31)).toInt32) &&& (nI 858993459))).toUInt32 >>> ((nI 4).toUInt32 &&& Int32.toUInt32 31)).toInt32)) &&& (nI 252645135)).toUInt32 >>> ((nI 8).toUInt32 &&& Int32.toUInt32 31)).toInt32)).toUInt32 >>> ((nI 16).toUInt32 &&& Int32.toUInt32 31)).toInt32)))] dJ6_bitCount_0f7a4_47 (by decide) rfl ?_
  refine x_iload_n F 0 dJ6_bitCount_0f7a4_48 rfl ?_
  refine x_bipush F (nI 63) dJ6_bitCount_0f7a4_49 (by decide +kernel) ?_
  refine x_iand F ((((((((p0 - (((p0.toUInt32 >>> ((nI 1).toUInt32 &&& Int32.toUInt32 31)).toInt32) &&& (nI 1431655765))) &&& (nI 858993459)) + ((((p0 - (((p0.toUInt32 >>> ((nI 1).toUInt32 &&& Int32.toUInt32 31)).toInt32) &&& (nI 1431655765))).toUInt32 >>> ((nI 2).toUInt32 &&& Int32.toUInt32 31)).toInt32) &&& (nI 858993459))) + (((((p0 - (((p0.toUInt32 >>> ((nI 1).toUInt32 &&& Int32.toUInt32 31)).toInt32) &&& (nI 1431655765))) &&& (nI 858993459)) + ((((p0 - (((p0.toUInt32 >>> ((nI 1).toUInt32 &&& Int32.toUInt32 31)).toInt32) &&& (nI 1431655765))).toUInt32 >>> ((nI 2).toUInt32 &&& Int32.toUInt32 31)).toInt32) &&& (nI 858993459))).toUInt32 >>> ((nI 4).toUInt32 &&& Int32.toUInt32 31)).toInt32)) &&& (nI 252645135)) + (((((((p0 - (((p0.toUInt32 >>> ((nI 1).toUInt32 &&& Int32.toUInt32 31)).toInt32) &&& (nI 1431655765))) &&& (nI 858993459)) + ((((p0 - (((p0.toUInt32 >>> ((nI 1).toUInt32 &&& Int32.toUInt32 31)).toInt32) &&& (nI 1431655765))).toUInt32 >>> ((nI 2).toUInt32 &&& Int32.toUInt32 31)).toInt32) &&& (nI 858993459))) + (((((p0 - (((p0.toUInt32 >>> ((nI 1).toUInt32 &&& Int32.toUInt32 31)).toInt32) &&& (nI 1431655765))) &&& (nI 858993459)) + ((((p0 - (((p0.toUInt32 >>> ((nI 1).toUInt32 &&& Int32.toUInt32 31)).toInt32) &&& (nI 1431655765))).toUInt32 >>> ((nI 2).toUInt32 &&& Int32.toUInt32 31)).toInt32) &&& (nI 858993459))).toUInt32 >>> ((nI 4).toUInt32 &&& Int32.toUInt32 31)).toInt32)) &&& (nI 252645135)).toUInt32 >>> ((nI 8).toUInt32 &&& Int32.toUInt32 31)).toInt32)) + ((((((((p0 - (((p0.toUInt32 >>> ((nI 1).toUInt32 &&& Int32.toUInt32 31)).toInt32) &&& (nI 1431655765))) &&& (nI 858993459)) + ((((p0 - (((p0.toUInt32 >>> ((nI 1).toUInt32 &&& Int32.toUInt32 31)).toInt32) &&& (nI 1431655765))).toUInt32 >>> ((nI 2).toUInt32 &&& Int32.toUInt32 31)).toInt32) &&& (nI 858993459))) + (((((p0 - (((p0.toUInt32 >>> ((nI 1).toUInt32 &&& Int32.toUInt32 31)).toInt32) &&& (nI 1431655765))) &&& (nI 858993459)) + ((((p0 - (((p0.toUInt32 >>> ((nI 1).toUInt32 &&& Int32.toUInt32 31)).toInt32) &&& (nI 1431655765))).toUInt32 >>> ((nI 2).toUInt32 &&& Int32.toUInt32 31)).toInt32) &&& (nI 858993459))).toUInt32 >>> ((nI 4).toUInt32 &&& Int32.toUInt32 31)).toInt32)) &&& (nI 252645135)) + (((((((p0 - (((p0.toUInt32 >>> ((nI 1).toUInt32 &&& Int32.toUInt32 31)).toInt32) &&& (nI 1431655765))) &&& (nI 858993459)) + ((((p0 - (((p0.toUInt32 >>> ((nI 1).toUInt32 &&& Int32.toUInt32 31)).toInt32) &&& (nI 1431655765))).toUInt32 >>> ((nI 2).toUInt32 &&& Int32.toUInt32 31)).toInt32) &&& (nI 858993459))) + (((((p0 - (((p0.toUInt32 >>> ((nI 1).toUInt32 &&& Int32.toUInt32 31)).toInt32) &&& (nI 1431655765))) &&& (nI 858993459)) + ((((p0 - (((p0.toUInt32 >>> ((nI 1).toUInt32 &&& Int32.toUInt32 31)).toInt32) &&& (nI 1431655765))).toUInt32 >>> ((nI 2).toUInt32 &&& Int32.toUInt32 31)).toInt32) &&& (nI 858993459))).toUInt32 >>> ((nI 4).toUInt32 &&& Int32.toUInt32 31)).toInt32)) &&& (nI 252645135)).toUInt32 >>> ((nI 8).toUInt32 &&& Int32.toUInt32 31)).toInt32)).toUInt32 >>> ((nI 16).toUInt32 &&& Int32.toUInt32 31)).toInt32)) &&& (nI 63)) dJ6_bitCount_0f7a4_51 rfl ?_
  exact x_iret F () (rfl) (rfl) (by omega) (by omega) dJ6_bitCount_0f7a4_52

def fl {α : Type} (f : Nat → α) (n : Nat) (v : α) : Nat → α := fun j => if j < n then v else f j
theorem fl_up (f : Nat → Int32) (i : Nat) (v : Int32) : upd (fl f i v) i v = fl f (i + 1) v := by
  funext j; unfold upd fl; by_cases h : j = i
  · subst h; simp
  · by_cases h2 : j < i
    · simp [h, h2, show j < i + 1 by omega]
    · simp [h, h2, show ¬ j < i + 1 by omega]
theorem fl_upL (f : Nat → Int64) (i : Nat) (v : Int64) : vp_updL (fl f i v) i v = fl f (i + 1) v := by
  funext j; unfold vp_updL fl; by_cases h : j = i
  · subst h; simp
  · by_cases h2 : j < i
    · simp [h, h2, show j < i + 1 by omega]
    · simp [h, h2, show ¬ j < i + 1 by omega]
theorem fl_0 {α : Type} (f : Nat → α) (v : α) : fl f 0 v = f := by funext j; simp [fl]
set_option maxHeartbeats 4000000 in
set_option maxRecDepth 100000 in
theorem c_J7_fill_53178 (l : Launch) (D : va_G) (cA : Nat → ClassId) (a n : Nat) (f : Nat → Int32) (v : Int32) (hn : n < 2 ^ 31) : Cg l D cA yJ7_fill_53178 cJ7_fill_53178 4 none 0 0 0 ([.ref a, .int v] : List Value) ([(a, .inl (cA 0, n, .inl f))]) (fun (r : Option Value) (u : Unit) => r = none) (fun u : Unit => [(a, .inl (cA 0, n, .inl (fl f n v)))]) := by
  refine x_met (by decide +kernel) rfl (Nat.le_of_ble_eq_true rfl) ?_
  intro xp xe xs xm xbl xme xco F hnm
  refine x_lv [(0, .ref a), (1, .int v)] [0, 1] rfl ?_
  refine x_iconst F (nI 0) dJ7_fill_53178_0 (by decide +kernel) ?_
  refine x_istore_n F [(2, .int (nI 0)), (0, .ref a), (1, .int v)] dJ7_fill_53178_1 (by decide) rfl ?_
  refine x_aload_n F 1 dJ7_fill_53178_2 rfl ?_
  refine x_alen F 0 0 rfl rfl (nI n) rfl dJ7_fill_53178_3 ?_
  refine x_istore_n F [(3, .int (nI n)), (2, .int (nI 0)), (0, .ref a), (1, .int v)] dJ7_fill_53178_4 (by decide) rfl ?_
  have e0 : f = fl f 0 v := (fl_0 f v).symm
  refine x_ws ([(a, .inl (cA 0, n, .inl (fl f 0 v)))]) (by rw [fl_0]) ?_
  refine x_lv [(0, .ref a), (1, .int v), (2, .int (nI 0)), (3, .int (nI n))] [2, 3, 1, 0] rfl ?_
  have loop : ∀ (nn5 : Nat) (i : Nat), (i ≤ n) → (n - i < nn5) → Wx xp l xe (rmL 0 0 0) xs xm ([.ref a, .int v] : List Value).toArray xbl xme xco 0 0 (xQ xbl D ([(a, .inl (cA 0, n, .inl f))]) xs ([.ref a, .int v] : List Value).toArray 0 0 (fun (r : Option Value) (u : Unit) => r = none) (fun u : Unit => [(a, .inl (cA 0, n, .inl (fl f n v)))])) 4 D (va_A ([(a, .inl (cA 0, n, .inl f))]) xs.heap.size) 5 [(0, .ref a), (1, .int v), (2, .int (nI i)), (3, .int (nI n))] [] ([(a, .inl (cA 0, n, .inl (fl f i v)))]) := by
    intro nn5
    induction nn5 with
    | zero =>
      intro i hi hm5
      exact absurd hm5 (Nat.not_lt_zero _)
    | succ nn5 ih5 =>
      intro i hi hm5
      refine x_iload_n F 2 dJ7_fill_53178_5 rfl ?_
      refine x_iload_n F 3 dJ7_fill_53178_6 rfl ?_
      refine x_icmp_ge F 20 dJ7_fill_53178_7 (by decide) (fun h7 => ?_) (fun h7 => ?_)
      · have h7n : n ≤ i := (nI_leI (by omega) (by omega)).mp h7
        have hi : i = n := by omega
        subst hi
        exact x_vret F () (rfl) (rfl) (by omega) (by omega) dJ7_fill_53178_20
      · have h7n : ¬ n ≤ i := fun z => h7 ((nI_leI (by omega) (by omega)).mpr z)
        refine x_aload_n F 0 dJ7_fill_53178_10 rfl ?_
        refine x_iload_n F 2 dJ7_fill_53178_11 rfl ?_
        refine x_iload_n F 1 dJ7_fill_53178_12 rfl ?_
        refine x_iast F 0 (k := i) ([(a, .inl (cA 0, n, .inl (upd (fl f i v) i v)))]) rfl (by omega) (by omega) rfl dJ7_fill_53178_13 ?_
        rw [fl_up]
        refine x_iinc F (nI (i + 1)) 2 [(2, .int (nI (i + 1))), (0, .ref a), (1, .int v), (3, .int (nI n))] dJ7_fill_53178_14 rfl ((nI_add i 1)) (by decide) rfl ?_
        refine x_goto F 5 dJ7_fill_53178_17 (by decide) ?_
        refine x_lv [(0, .ref a), (1, .int v), (2, .int (nI (i + 1))), (3, .int (nI n))] [1, 2, 0, 3] rfl ?_
        exact ih5 (i + 1) (by omega) (by omega)
  exact loop _ 0 (Nat.zero_le _) (Nat.lt_succ_self _)

set_option maxHeartbeats 4000000 in
set_option maxRecDepth 100000 in
theorem c_J7_fill_d0a16 (l : Launch) (D : va_G) (cA : Nat → ClassId) (a n : Nat) (f : Nat → Int64) (v : Int64) (hn : n < 2 ^ 31) : Cg l D cA yJ7_fill_d0a16 cJ7_fill_d0a16 5 none 0 0 0 ([.ref a, .long v] : List Value) ([(a, .inl (cA 1, n, .inr (.inl f)))]) (fun (r : Option Value) (u : Unit) => r = none) (fun u : Unit => [(a, .inl (cA 1, n, .inr (.inl (fl f n v))))]) := by
  refine x_met (by decide +kernel) rfl (Nat.le_of_ble_eq_true rfl) ?_
  intro xp xe xs xm xbl xme xco F hnm
  refine x_lv [(0, .ref a), (1, .long v)] [0, 1] rfl ?_
  refine x_iconst F (nI 0) dJ7_fill_d0a16_0 (by decide +kernel) ?_
  refine x_istore_n F [(3, .int (nI 0)), (0, .ref a), (1, .long v)] dJ7_fill_d0a16_1 (by decide) rfl ?_
  refine x_aload_n F 1 dJ7_fill_d0a16_2 rfl ?_
  refine x_alen F 0 1 rfl rfl (nI n) rfl dJ7_fill_d0a16_3 ?_
  refine x_istore F [(4, .int (nI n)), (3, .int (nI 0)), (0, .ref a), (1, .long v)] dJ7_fill_d0a16_4 (by decide) rfl ?_
  have e0 : f = fl f 0 v := (fl_0 f v).symm
  refine x_ws ([(a, .inl (cA 1, n, .inr (.inl (fl f 0 v))))]) (by rw [fl_0]) ?_
  refine x_lv [(0, .ref a), (1, .long v), (3, .int (nI 0)), (4, .int (nI n))] [2, 3, 1, 0] rfl ?_
  have loop : ∀ (nn6 : Nat) (i : Nat), (i ≤ n) → (n - i < nn6) → Wx xp l xe (rmL 0 0 0) xs xm ([.ref a, .long v] : List Value).toArray xbl xme xco 0 0 (xQ xbl D ([(a, .inl (cA 1, n, .inr (.inl f)))]) xs ([.ref a, .long v] : List Value).toArray 0 0 (fun (r : Option Value) (u : Unit) => r = none) (fun u : Unit => [(a, .inl (cA 1, n, .inr (.inl (fl f n v))))])) 5 D (va_A ([(a, .inl (cA 1, n, .inr (.inl f)))]) xs.heap.size) 6 [(0, .ref a), (1, .long v), (3, .int (nI i)), (4, .int (nI n))] [] ([(a, .inl (cA 1, n, .inr (.inl (fl f i v))))]) := by
    intro nn6
    induction nn6 with
    | zero =>
      intro i hi hm6
      exact absurd hm6 (Nat.not_lt_zero _)
    | succ nn6 ih6 =>
      intro i hi hm6
      refine x_iload_n F 2 dJ7_fill_d0a16_6 rfl ?_
      refine x_iload F 3 dJ7_fill_d0a16_7 rfl ?_
      refine x_icmp_ge F 22 dJ7_fill_d0a16_9 (by decide) (fun h9 => ?_) (fun h9 => ?_)
      · have h9n : n ≤ i := (nI_leI (by omega) (by omega)).mp h9
        have hi : i = n := by omega
        subst hi
        exact x_vret F () (rfl) (rfl) (by omega) (by omega) dJ7_fill_d0a16_22
      · have h9n : ¬ n ≤ i := fun z => h9 ((nI_leI (by omega) (by omega)).mpr z)
        refine x_aload_n F 0 dJ7_fill_d0a16_12 rfl ?_
        refine x_iload_n F 2 dJ7_fill_d0a16_13 rfl ?_
        refine x_lload_n F 1 dJ7_fill_d0a16_14 rfl ?_
        refine x_last F 0 (k := i) ([(a, .inl (cA 1, n, .inr (.inl (vp_updL (fl f i v) i v))))]) rfl (by omega) (by omega) rfl dJ7_fill_d0a16_15 ?_
        rw [fl_upL]
        refine x_iinc F (nI (i + 1)) 2 [(3, .int (nI (i + 1))), (0, .ref a), (1, .long v), (4, .int (nI n))] dJ7_fill_d0a16_16 rfl ((nI_add i 1)) (by decide) rfl ?_
        refine x_goto F 6 dJ7_fill_d0a16_19 (by decide) ?_
        refine x_lv [(0, .ref a), (1, .long v), (3, .int (nI (i + 1))), (4, .int (nI n))] [1, 2, 0, 3] rfl ?_
        exact ih6 (i + 1) (by omega) (by omega)
  exact loop _ 0 (Nat.zero_le _) (Nat.lt_succ_self _)
end
section
/-! THE FACTS, as tables: row 0 known, 1 came, 2 there, 3 length, 4 weight, 5 wish, 6 lock, 7 apart, 8 size. The log G: row 0 kind, 1 whom, 2 3 4 the numbers -/
def bitm (w : Nat) : Int32 := nI 1 <<< (nI w &&& 31)
def clr (M : Nat → Nat → Int32) : Nat → Nat → Int32 := fun k j => if (k = 0 ∨ k = 1) ∧ j = 0 then nI 0 else if (k = 2 ∨ k = 7) ∧ j < 16 then nI 0 else if k = 6 ∧ j < 16 then (-2) else if k = 8 ∧ j < 6 then nI 100 else M k j
def clrI (M : Nat → Nat → Int32) (i : Nat) : Nat → Nat → Int32 := fun k j => if (k = 0 ∨ k = 1) ∧ j = 0 then nI 0 else if (k = 2 ∨ k = 7) ∧ j < i then nI 0 else if k = 6 ∧ j < i then (-2) else M k j
def traitF (G : Nat → Nat → Int32) (i w : Nat) (F : Nat → Nat → Int32) : Nat → Nat → Int32 := st2 (st2 (st2 F 3 w (G 2 i)) 4 w (G 3 i)) 5 w (G 4 i)
def leaveI (F : Nat → Nat → Int32) (w n : Nat) : Nat → Nat → Int32 := fun k j => if k = 7 ∧ j < n then (st2 (st2 (st2 F 2 w (nI 0)) 6 w (-2)) 7 w (nI 0)) k j &&& (bitm w ^^^ (-1)) else (st2 (st2 (st2 F 2 w (nI 0)) 6 w (-2)) 7 w (nI 0)) k j
def partF (F : Nat → Nat → Int32) (a b : Nat) : Nat → Nat → Int32 := st2 (st2 F 7 a (F 7 a ||| bitm b)) 7 b (st2 F 7 a (F 7 a ||| bitm b) 7 b ||| bitm a)
def unpartF (F : Nat → Nat → Int32) (a b : Nat) : Nat → Nat → Int32 := st2 (st2 F 7 a (F 7 a &&& (bitm b ^^^ (-1)))) 7 b (st2 F 7 a (F 7 a &&& (bitm b ^^^ (-1))) 7 b &&& (bitm a ^^^ (-1)))
/-- one change more, of a job w -/
def stepJ (G : Nat → Nat → Int32) (i w : Nat) (F : Nat → Nat → Int32) : Nat → Nat → Int32 :=
  if G 0 i = nI 0 then traitF G i w (st2 (st2 F 2 w (nI 1)) 1 0 (nI (w + 1)))
  else if G 0 i = nI 1 then leaveI F w 16
  else if G 0 i = nI 2 then traitF G i w F
  else if G 0 i = nI 4 then partF F w (G 2 i).toNatClampNeg
  else if G 0 i = nI 5 then unpartF F w (G 2 i).toNatClampNeg
  else if G 0 i = nI 6 then st2 F 6 w (G 2 i)
  else st2 F 6 w (-2)
/-- one change more -/
def stepF (G : Nat → Nat → Int32) (i : Nat) (F : Nat → Nat → Int32) : Nat → Nat → Int32 :=
  if G 0 i = nI 3 then st2 F 8 (G 1 i).toNatClampNeg (G 2 i) else stepJ G i (G 1 i).toNatClampNeg F
/-- traits as the document bounds them -/
def trOk (a b c : Int32) : Prop := (nI 1 ≤ a ∧ a ≤ nI 100) ∧ (nI 0 ≤ b ∧ b ≤ nI 50) ∧ (nI 0 ≤ c ∧ c ≤ nI 5)
/-- a change as the log may hold it -/
def wfE (G : Nat → Nat → Int32) (i : Nat) : Prop := ∃ k w : Nat, G 0 i = nI k ∧ G 1 i = nI w ∧ k < 8 ∧ (k = 3 → w < 6 ∧ nI 0 ≤ G 2 i ∧ G 2 i ≤ nI 400) ∧ (k ≠ 3 → w < 16) ∧ (k = 4 ∨ k = 5 → ∃ b : Nat, b < 16 ∧ G 2 i = nI b) ∧ (k = 0 ∨ k = 2 → trOk (G 2 i) (G 3 i) (G 4 i)) ∧ (k = 6 → nI 0 ≤ G 2 i + 1 ∧ G 2 i + 1 ≤ nI 6)
/-- c changes from a on -/
def itF (G : Nat → Nat → Int32) (a : Nat) : Nat → (Nat → Nat → Int32) → (Nat → Nat → Int32)
  | 0, M => M
  | c + 1, M => st2 (stepF G (a + c) (itF G a c M)) 0 0 (nI (a + c + 1))
def becF (G : Nat → Nat → Int32) (k n : Nat) (M : Nat → Nat → Int32) : Nat → Nat → Int32 := if n < k then itF G 0 n (clr M) else itF G k (n - k) M
theorem clrI_0 (M : Nat → Nat → Int32) : clrI M 0 = st2 (st2 M 0 0 (nI 0)) 1 0 (nI 0) := by
  funext k j; simp only [clrI, st2_at]; repeat' split
  all_goals first | rfl | (exfalso; omega)
theorem clrI_s (M : Nat → Nat → Int32) (i : Nat) : st2 (st2 (st2 (clrI M i) 2 i (nI 0)) 6 i (-2)) 7 i (nI 0) = clrI M (i + 1) := by
  funext k j; simp only [clrI, st2_at]; repeat' split
  all_goals first | rfl | (exfalso; omega)
theorem clrI_16 (M : Nat → Nat → Int32) : va_up (clrI M 16) 8 (fl (clrI M 16 8) 6 (nI 100)) = clr M := by
  funext k j; unfold va_up; by_cases h : k = 8
  · subst h; by_cases hj : j < 6
    · simp [fl, clr, hj]
    · simp [fl, clr, clrI, hj]
  · simp [clr, clrI, h]
theorem leaveI_0 (F : Nat → Nat → Int32) (w : Nat) : leaveI F w 0 = st2 (st2 (st2 F 2 w (nI 0)) 6 w (-2)) 7 w (nI 0) := by
  funext k j; simp [leaveI]
theorem leaveI_s (F : Nat → Nat → Int32) (w n : Nat) : st2 (leaveI F w n) 7 n (leaveI F w n 7 n &&& (bitm w ^^^ (-1))) = leaveI F w (n + 1) := by
  funext k j; simp only [st2_at (leaveI F w n)]
  by_cases h : k = 7 ∧ j = n
  · obtain ⟨rfl, rfl⟩ := h
    simp [leaveI]
  · rw [if_neg h]; simp only [leaveI]
    by_cases h2 : k = 7 ∧ j < n
    · rw [if_pos h2, if_pos ⟨h2.1, by omega⟩]
    · rw [if_neg h2, if_neg (by omega)]
end
section
/-! the class's Facts and Log -/
set_option maxHeartbeats 4000000 in
set_option maxRecDepth 100000 in
theorem c_X0_clear (l : Launch) (D : va_G) (cA : Nat → ClassId) (ad : Nat → Nat) (M : Nat → Nat → Int32)  : Cg l D cA yX0_clear cX0_clear 2 none 1 0 0 ([.ref (ad 100)] : List Value) (wF cA ad M) (fun (r : Option Value) (u : Nat → Nat → Int32) => r = none ∧ u = clr M) (fun u : Nat → Nat → Int32 => wF cA ad u) := by
  refine x_met (by decide +kernel) rfl (Nat.le_of_ble_eq_true rfl) ?_
  intro xp xe xs xm xbl xme xco F hnm
  refine x_lv [(0, .ref (ad 100))] [0] rfl ?_
  refine x_aload_n F 0 dX0_clear_0 rfl ?_
  refine x_iconst F (nI 0) dX0_clear_1 (by decide +kernel) ?_
  refine x_put F inUX0 tyX0_ok nmX0 0 0 (wF cA ad (st2 M 0 0 (nI 0))) rfl rfl (by decide) wfX0_43 rfl rfl rfl rfl (Nat.le_of_ble_eq_true rfl) rfl dX0_clear_2 ?_
  refine x_aload_n F 0 dX0_clear_5 rfl ?_
  refine x_iconst F (nI 0) dX0_clear_6 (by decide +kernel) ?_
  refine x_put F inUX0 tyX0_ok nmX0 0 1 (wF cA ad (st2 (st2 M 0 0 (nI 0)) 1 0 (nI 0))) rfl rfl (by decide) wfX0_47 rfl rfl rfl rfl (Nat.le_of_ble_eq_true rfl) rfl dX0_clear_7 ?_
  refine x_iconst F (nI 0) dX0_clear_10 (by decide +kernel) ?_
  refine x_istore_n F [(1, .int (nI 0)), (0, .ref (ad 100))] dX0_clear_11 (by decide) rfl ?_
  rw [← clrI_0]
  refine x_lv [(0, .ref (ad 100)), (1, .int (nI 0))] [1, 0] rfl ?_
  have loop12 : ∀ (nn12 : Nat) (i : Nat), (i ≤ 16) → (16 - i < nn12) → Wx xp l xe (rmL 1 0 0) xs xm ([.ref (ad 100)] : List Value).toArray xbl xme xco 0 0 (xQ xbl D (wF cA ad M) xs ([.ref (ad 100)] : List Value).toArray 0 0 (fun (r : Option Value) (u : Nat → Nat → Int32) => r = none ∧ u = clr M) (fun u : Nat → Nat → Int32 => wF cA ad u)) 2 D (va_A (wF cA ad M) xs.heap.size) 12 [(0, .ref (ad 100)), (1, .int (nI i))] [] (wF cA ad (clrI M i)) := by
    intro nn12
    induction nn12 with
    | zero =>
      intro i hi hm12
      exact absurd hm12 (Nat.not_lt_zero _)
    | succ nn12 ih12 =>
      intro i hi hm12
      refine x_iload_n F 1 dX0_clear_12 rfl ?_
      refine x_bipush F (nI 16) dX0_clear_13 (by decide +kernel) ?_
      refine x_icmp_ge F 46 dX0_clear_15 (by decide) (fun h15 => ?_) (fun h15 => ?_)
      · have h15n : 16 ≤ i := (nI_leI (by decide) (by omega)).mp h15
        obtain rfl : 16 = i := by omega
        refine x_aload_n F 0 dX0_clear_46 rfl ?_
        refine x_get F inUX0 0 8 rfl rfl (by decide) wfX0_31 rfl dX0_clear_47 ?_
        refine x_bipush F (nI 100) dX0_clear_50 (by decide +kernel) ?_
        refine x_callS F [] ([0, 1, 2, 3, 4, 5, 6, 8, 9].filterMap (fun i => (wF cA ad (clrI M 16))[i]?)) [7] [0, 1, 2, 3, 4, 5, 6, 8, 9] (c_J7_fill_53178 l D cA (ad 8) 6 ((clrI M 16) 8) (nI 100) (by decide)) mwJ7_fill_53178 wmX0_50 rfl rfl (Nat.le_of_ble_eq_true rfl) ⟨by decide, by decide⟩ ⟨by show _ ≤ 0; omega, by show _ ≤ 0; omega⟩ rfl rfl (by decide) (by decide) (by decide) dX0_clear_52 (fun r1 u2 hp3 => ?_)
        subst hp3
        refine x_sub (wF cA ad (va_up (clrI M 16) 8 (fl (clrI M 16 8) 6 (nI 100)))) [0, 1, 2, 3, 4, 5, 6, 9, 7, 8] rfl (by decide) ?_
        rw [clrI_16]
        exact x_vret F (clr M) (⟨rfl, rfl⟩) (rfl) (by omega) (by omega) dX0_clear_55
      · have h15n : ¬ 16 ≤ i := fun z => h15 ((nI_leI (by decide) (by omega)).mpr z)
        refine x_aload_n F 0 dX0_clear_18 rfl ?_
        refine x_get F inUX0 0 2 rfl rfl (by decide) wfX0_9 rfl dX0_clear_19 ?_
        refine x_iload_n F 1 dX0_clear_22 rfl ?_
        refine x_iconst F (nI 0) dX0_clear_23 (by decide +kernel) ?_
        refine x_zast F 1 (k := i) (wF cA ad (st2 (clrI M i) 2 i (nI 0))) rfl (by omega) (by decide) (by decide +kernel) rfl dX0_clear_24 ?_
        refine x_aload_n F 0 dX0_clear_25 rfl ?_
        refine x_get F inUX0 0 6 rfl rfl (by decide) wfX0_25 rfl dX0_clear_26 ?_
        refine x_iload_n F 1 dX0_clear_29 rfl ?_
        refine x_bipush F (-2) dX0_clear_30 (by decide +kernel) ?_
        refine x_iast F 5 (k := i) (wF cA ad (st2 (st2 (clrI M i) 2 i (nI 0)) 6 i (-2))) rfl (by omega) (by decide) rfl dX0_clear_32 ?_
        refine x_aload_n F 0 dX0_clear_33 rfl ?_
        refine x_get F inUX0 0 7 rfl rfl (by decide) wfX0_28 rfl dX0_clear_34 ?_
        refine x_iload_n F 1 dX0_clear_37 rfl ?_
        refine x_iconst F (nI 0) dX0_clear_38 (by decide +kernel) ?_
        refine x_iast F 6 (k := i) (wF cA ad (st2 (st2 (st2 (clrI M i) 2 i (nI 0)) 6 i (-2)) 7 i (nI 0))) rfl (by omega) (by decide) rfl dX0_clear_39 ?_
        refine x_iinc F (nI (i + 1)) 1 [(1, .int (nI (i + 1))), (0, .ref (ad 100))] dX0_clear_40 rfl ((nI_add i 1)) (by decide) rfl ?_
        refine x_goto F 12 dX0_clear_43 (by decide) ?_
        rw [clrI_s]
        refine x_lv [(0, .ref (ad 100)), (1, .int (nI (i + 1)))] [1, 0] rfl ?_
        exact ih12 (i + 1) (by omega) (by omega)
  exact loop12 _ 0 (Nat.zero_le _) (Nat.lt_succ_self _)

set_option maxHeartbeats 4000000 in
set_option maxRecDepth 100000 in
theorem c_X0_setTraits (l : Launch) (D : va_G) (cA : Nat → ClassId) (ad : Nat → Nat) (M : Nat → Nat → Int32) (al : Nat → Nat) (ML : Nat → Nat → Int32) (i w : Nat) (hi : i < 120) (hw : w < 16) : Cg l D cA yX0_setTraits cX0_setTraits 4 none 0 0 0 ([.ref (ad 100), .ref (al 100), .int (nI i), .int (nI w)] : List Value) ((wF cA ad M) ++ (wL cA al ML)) (fun (r : Option Value) (u : Nat → Nat → Int32) => r = none ∧ u = traitF ML i w M) (fun u : Nat → Nat → Int32 => (wF cA ad u) ++ (wL cA al ML)) := by
  refine x_met (by decide +kernel) rfl (Nat.le_of_ble_eq_true rfl) ?_
  intro xp xe xs xm xbl xme xco F hnm
  refine x_lv [(0, .ref (ad 100)), (1, .ref (al 100)), (2, .int (nI i)), (3, .int (nI w))] [0, 1, 2, 3] rfl ?_
  refine x_aload_n F 0 dX0_setTraits_0 rfl ?_
  refine x_get F inUX0 0 3 rfl rfl (by decide) wfX0_15 rfl dX0_setTraits_1 ?_
  refine x_iload_n F 3 dX0_setTraits_4 rfl ?_
  refine x_aload_n F 1 dX0_setTraits_5 rfl ?_
  refine x_get F inUX1 10 2 rfl rfl (by decide) wfX0_77 rfl dX0_setTraits_6 ?_
  refine x_iload_n F 2 dX0_setTraits_9 rfl ?_
  refine x_iald F 13 (k := i) rfl (by omega) (by decide) dX0_setTraits_10 ?_
  refine x_iast F 2 (k := w) ((wF cA ad (st2 M 3 w (ML 2 i))) ++ (wL cA al ML)) rfl (by omega) (by decide) rfl dX0_setTraits_11 ?_
  refine x_aload_n F 0 dX0_setTraits_12 rfl ?_
  refine x_get F inUX0 0 4 rfl rfl (by decide) wfX0_19 rfl dX0_setTraits_13 ?_
  refine x_iload_n F 3 dX0_setTraits_16 rfl ?_
  refine x_aload_n F 1 dX0_setTraits_17 rfl ?_
  refine x_get F inUX1 10 3 rfl rfl (by decide) wfX0_95 rfl dX0_setTraits_18 ?_
  refine x_iload_n F 2 dX0_setTraits_21 rfl ?_
  refine x_iald F 14 (k := i) rfl (by omega) (by decide) dX0_setTraits_22 ?_
  refine x_iast F 3 (k := w) ((wF cA ad (st2 (st2 M 3 w (ML 2 i)) 4 w (ML 3 i))) ++ (wL cA al ML)) rfl (by omega) (by decide) rfl dX0_setTraits_23 ?_
  refine x_aload_n F 0 dX0_setTraits_24 rfl ?_
  refine x_get F inUX0 0 5 rfl rfl (by decide) wfX0_22 rfl dX0_setTraits_25 ?_
  refine x_iload_n F 3 dX0_setTraits_28 rfl ?_
  refine x_aload_n F 1 dX0_setTraits_29 rfl ?_
  refine x_get F inUX1 10 4 rfl rfl (by decide) wfX0_98 rfl dX0_setTraits_30 ?_
  refine x_iload_n F 2 dX0_setTraits_33 rfl ?_
  refine x_iald F 15 (k := i) rfl (by omega) (by decide) dX0_setTraits_34 ?_
  refine x_iast F 4 (k := w) ((wF cA ad (st2 (st2 (st2 M 3 w (ML 2 i)) 4 w (ML 3 i)) 5 w (ML 4 i))) ++ (wL cA al ML)) rfl (by omega) (by decide) rfl dX0_setTraits_35 ?_
  exact x_vret F (traitF ML i w M) (⟨rfl, rfl⟩) (rfl) (by omega) (by omega) dX0_setTraits_36

set_option maxHeartbeats 4000000 in
set_option maxRecDepth 100000 in
theorem c_X0_leave (l : Launch) (D : va_G) (cA : Nat → ClassId) (ad : Nat → Nat) (M : Nat → Nat → Int32) (w : Nat) (hw : w < 16) : Cg l D cA yX0_leave cX0_leave 3 none 0 0 0 ([.ref (ad 100), .int (nI w)] : List Value) (wF cA ad M) (fun (r : Option Value) (u : Nat → Nat → Int32) => r = none ∧ u = leaveI M w 16) (fun u : Nat → Nat → Int32 => wF cA ad u) := by
  refine x_met (by decide +kernel) rfl (Nat.le_of_ble_eq_true rfl) ?_
  intro xp xe xs xm xbl xme xco F hnm
  refine x_lv [(0, .ref (ad 100)), (1, .int (nI w))] [0, 1] rfl ?_
  refine x_aload_n F 0 dX0_leave_0 rfl ?_
  refine x_get F inUX0 0 2 rfl rfl (by decide) wfX0_9 rfl dX0_leave_1 ?_
  refine x_iload_n F 1 dX0_leave_4 rfl ?_
  refine x_iconst F (nI 0) dX0_leave_5 (by decide +kernel) ?_
  refine x_zast F 1 (k := w) (wF cA ad (st2 M 2 w (nI 0))) rfl (by omega) (by decide) (by decide +kernel) rfl dX0_leave_6 ?_
  refine x_aload_n F 0 dX0_leave_7 rfl ?_
  refine x_get F inUX0 0 6 rfl rfl (by decide) wfX0_25 rfl dX0_leave_8 ?_
  refine x_iload_n F 1 dX0_leave_11 rfl ?_
  refine x_bipush F (-2) dX0_leave_12 (by decide +kernel) ?_
  refine x_iast F 5 (k := w) (wF cA ad (st2 (st2 M 2 w (nI 0)) 6 w (-2))) rfl (by omega) (by decide) rfl dX0_leave_14 ?_
  refine x_aload_n F 0 dX0_leave_15 rfl ?_
  refine x_get F inUX0 0 7 rfl rfl (by decide) wfX0_28 rfl dX0_leave_16 ?_
  refine x_iload_n F 1 dX0_leave_19 rfl ?_
  refine x_iconst F (nI 0) dX0_leave_20 (by decide +kernel) ?_
  refine x_iast F 6 (k := w) (wF cA ad (st2 (st2 (st2 M 2 w (nI 0)) 6 w (-2)) 7 w (nI 0))) rfl (by omega) (by decide) rfl dX0_leave_21 ?_
  refine x_iconst F (nI 0) dX0_leave_22 (by decide +kernel) ?_
  refine x_istore_n F [(2, .int (nI 0)), (0, .ref (ad 100)), (1, .int (nI w))] dX0_leave_23 (by decide) rfl ?_
  rw [← leaveI_0]
  refine x_lv [(0, .ref (ad 100)), (1, .int (nI w)), (2, .int (nI 0))] [1, 2, 0] rfl ?_
  have loop24 : ∀ (nn24 : Nat) (i : Nat), (i ≤ 16) → (16 - i < nn24) → Wx xp l xe (rmL 0 0 0) xs xm ([.ref (ad 100), .int (nI w)] : List Value).toArray xbl xme xco 0 0 (xQ xbl D (wF cA ad M) xs ([.ref (ad 100), .int (nI w)] : List Value).toArray 0 0 (fun (r : Option Value) (u : Nat → Nat → Int32) => r = none ∧ u = leaveI M w 16) (fun u : Nat → Nat → Int32 => wF cA ad u)) 3 D (va_A (wF cA ad M) xs.heap.size) 24 [(0, .ref (ad 100)), (1, .int (nI w)), (2, .int (nI i))] [] (wF cA ad (leaveI M w i)) := by
    intro nn24
    induction nn24 with
    | zero =>
      intro i hi hm24
      exact absurd hm24 (Nat.not_lt_zero _)
    | succ nn24 ih24 =>
      intro i hi hm24
      refine x_iload_n F 2 dX0_leave_24 rfl ?_
      refine x_bipush F (nI 16) dX0_leave_25 (by decide +kernel) ?_
      refine x_icmp_ge F 50 dX0_leave_27 (by decide) (fun h27 => ?_) (fun h27 => ?_)
      · have h27n : 16 ≤ i := (nI_leI (by decide) (by omega)).mp h27
        obtain rfl : 16 = i := by omega
        exact x_vret F (leaveI M w 16) (⟨rfl, rfl⟩) (rfl) (by omega) (by omega) dX0_leave_50
      · have h27n : ¬ 16 ≤ i := fun z => h27 ((nI_leI (by decide) (by omega)).mpr z)
        refine x_aload_n F 0 dX0_leave_30 rfl ?_
        refine x_get F inUX0 0 7 rfl rfl (by decide) wfX0_28 rfl dX0_leave_31 ?_
        refine x_iload_n F 2 dX0_leave_34 rfl ?_
        refine x_dup2 F dX0_leave_35 rfl rfl ?_
        refine x_iald F 6 (k := i) rfl (by omega) (by decide) dX0_leave_36 ?_
        refine x_iconst F (nI 1) dX0_leave_37 (by decide +kernel) ?_
        refine x_iload_n F 1 dX0_leave_38 rfl ?_
        refine x_ishl F ((nI 1) <<< ((nI w) &&& 31)) dX0_leave_39 rfl ?_
        refine x_iconst F (-1) dX0_leave_40 (by decide +kernel) ?_
        refine x_ixor F (((nI 1) <<< ((nI w) &&& 31)) ^^^ (-1)) dX0_leave_41 rfl ?_
        refine x_iand F (((leaveI M w i) 7 i) &&& (((nI 1) <<< ((nI w) &&& 31)) ^^^ (-1))) dX0_leave_42 rfl ?_
        refine x_iast F 6 (k := i) (wF cA ad (st2 (leaveI M w i) 7 i (((leaveI M w i) 7 i) &&& (((nI 1) <<< ((nI w) &&& 31)) ^^^ (-1))))) rfl (by omega) (by decide) rfl dX0_leave_43 ?_
        refine x_iinc F (nI (i + 1)) 2 [(2, .int (nI (i + 1))), (0, .ref (ad 100)), (1, .int (nI w))] dX0_leave_44 rfl ((nI_add i 1)) (by decide) rfl ?_
        refine x_goto F 24 dX0_leave_47 (by decide) ?_
        refine x_ws (wF cA ad (leaveI M w (i + 1))) (by rw [← leaveI_s]; rfl) ?_
        refine x_lv [(0, .ref (ad 100)), (1, .int (nI w)), (2, .int (nI (i + 1)))] [1, 2, 0] rfl ?_
        exact ih24 (i + 1) (by omega) (by omega)
  exact loop24 _ 0 (Nat.zero_le _) (Nat.lt_succ_self _)

set_option maxHeartbeats 4000000 in
set_option maxRecDepth 100000 in
theorem c_X0_setApart1 (l : Launch) (D : va_G) (cA : Nat → ClassId) (ad : Nat → Nat) (M : Nat → Nat → Int32) (a b : Nat) (ha : a < 16) (hb : b < 16) : Cg l D cA yX0_setApart cX0_setApart 4 none 0 0 0 ([.ref (ad 100), .int (nI a), .int (nI b), .int (nI 1)] : List Value) (wF cA ad M) (fun (r : Option Value) (u : Nat → Nat → Int32) => r = none ∧ u = partF M a b) (fun u : Nat → Nat → Int32 => wF cA ad u) := by
  refine x_met (by decide +kernel) rfl (Nat.le_of_ble_eq_true rfl) ?_
  intro xp xe xs xm xbl xme xco F hnm
  refine x_lv [(0, .ref (ad 100)), (1, .int (nI a)), (2, .int (nI b)), (3, .int (nI 1))] [0, 1, 2, 3] rfl ?_
  refine x_iload_n F 3 dX0_setApart_0 rfl ?_
  refine x_if_eq F 31 dX0_setApart_1 (by decide) (fun h1 => ?_) (fun h1 => ?_)
  · have h1n : 1 = 0 := (nI_eq (by decide) (by decide)).mp (h1.trans nI_0.symm)
    exact absurd h1n (by decide)
  · have h1n : ¬ 1 = 0 := fun z => h1 (((nI_eq (by decide) (by decide)).mpr z).trans nI_0)
    refine x_aload_n F 0 dX0_setApart_4 rfl ?_
    refine x_get F inUX0 0 7 rfl rfl (by decide) wfX0_28 rfl dX0_setApart_5 ?_
    refine x_iload_n F 1 dX0_setApart_8 rfl ?_
    refine x_dup2 F dX0_setApart_9 rfl rfl ?_
    refine x_iald F 6 (k := a) rfl (by omega) (by decide) dX0_setApart_10 ?_
    refine x_iconst F (nI 1) dX0_setApart_11 (by decide +kernel) ?_
    refine x_iload_n F 2 dX0_setApart_12 rfl ?_
    refine x_ishl F ((nI 1) <<< ((nI b) &&& 31)) dX0_setApart_13 rfl ?_
    refine x_ior F ((M 7 a) ||| ((nI 1) <<< ((nI b) &&& 31))) dX0_setApart_14 rfl ?_
    refine x_iast F 6 (k := a) (wF cA ad (st2 M 7 a ((M 7 a) ||| ((nI 1) <<< ((nI b) &&& 31))))) rfl (by omega) (by decide) rfl dX0_setApart_15 ?_
    refine x_aload_n F 0 dX0_setApart_16 rfl ?_
    refine x_get F inUX0 0 7 rfl rfl (by decide) wfX0_28 rfl dX0_setApart_17 ?_
    refine x_iload_n F 2 dX0_setApart_20 rfl ?_
    refine x_dup2 F dX0_setApart_21 rfl rfl ?_
    refine x_iald F 6 (k := b) rfl (by omega) (by decide) dX0_setApart_22 ?_
    refine x_iconst F (nI 1) dX0_setApart_23 (by decide +kernel) ?_
    refine x_iload_n F 1 dX0_setApart_24 rfl ?_
    refine x_ishl F ((nI 1) <<< ((nI a) &&& 31)) dX0_setApart_25 rfl ?_
    refine x_ior F (((st2 M 7 a ((M 7 a) ||| ((nI 1) <<< ((nI b) &&& 31)))) 7 b) ||| ((nI 1) <<< ((nI a) &&& 31))) dX0_setApart_26 rfl ?_
    refine x_iast F 6 (k := b) (wF cA ad (st2 (st2 M 7 a ((M 7 a) ||| ((nI 1) <<< ((nI b) &&& 31)))) 7 b (((st2 M 7 a ((M 7 a) ||| ((nI 1) <<< ((nI b) &&& 31)))) 7 b) ||| ((nI 1) <<< ((nI a) &&& 31))))) rfl (by omega) (by decide) rfl dX0_setApart_27 ?_
    refine x_goto F 59 dX0_setApart_28 (by decide) ?_
    exact x_vret F (partF M a b) (⟨rfl, rfl⟩) (rfl) (by omega) (by omega) dX0_setApart_59

set_option maxHeartbeats 4000000 in
set_option maxRecDepth 100000 in
theorem c_X0_setApart0 (l : Launch) (D : va_G) (cA : Nat → ClassId) (ad : Nat → Nat) (M : Nat → Nat → Int32) (a b : Nat) (ha : a < 16) (hb : b < 16) : Cg l D cA yX0_setApart cX0_setApart 4 none 0 0 0 ([.ref (ad 100), .int (nI a), .int (nI b), .int (nI 0)] : List Value) (wF cA ad M) (fun (r : Option Value) (u : Nat → Nat → Int32) => r = none ∧ u = unpartF M a b) (fun u : Nat → Nat → Int32 => wF cA ad u) := by
  refine x_met (by decide +kernel) rfl (Nat.le_of_ble_eq_true rfl) ?_
  intro xp xe xs xm xbl xme xco F hnm
  refine x_lv [(0, .ref (ad 100)), (1, .int (nI a)), (2, .int (nI b)), (3, .int (nI 0))] [0, 1, 2, 3] rfl ?_
  refine x_iload_n F 3 dX0_setApart_0 rfl ?_
  refine x_if_eq F 31 dX0_setApart_1 (by decide) (fun h1 => ?_) (fun h1 => ?_)
  · have h1n : 0 = 0 := (nI_eq (by decide) (by decide)).mp (h1.trans nI_0.symm)
    refine x_aload_n F 0 dX0_setApart_31 rfl ?_
    refine x_get F inUX0 0 7 rfl rfl (by decide) wfX0_28 rfl dX0_setApart_32 ?_
    refine x_iload_n F 1 dX0_setApart_35 rfl ?_
    refine x_dup2 F dX0_setApart_36 rfl rfl ?_
    refine x_iald F 6 (k := a) rfl (by omega) (by decide) dX0_setApart_37 ?_
    refine x_iconst F (nI 1) dX0_setApart_38 (by decide +kernel) ?_
    refine x_iload_n F 2 dX0_setApart_39 rfl ?_
    refine x_ishl F ((nI 1) <<< ((nI b) &&& 31)) dX0_setApart_40 rfl ?_
    refine x_iconst F (-1) dX0_setApart_41 (by decide +kernel) ?_
    refine x_ixor F (((nI 1) <<< ((nI b) &&& 31)) ^^^ (-1)) dX0_setApart_42 rfl ?_
    refine x_iand F ((M 7 a) &&& (((nI 1) <<< ((nI b) &&& 31)) ^^^ (-1))) dX0_setApart_43 rfl ?_
    refine x_iast F 6 (k := a) (wF cA ad (st2 M 7 a ((M 7 a) &&& (((nI 1) <<< ((nI b) &&& 31)) ^^^ (-1))))) rfl (by omega) (by decide) rfl dX0_setApart_44 ?_
    refine x_aload_n F 0 dX0_setApart_45 rfl ?_
    refine x_get F inUX0 0 7 rfl rfl (by decide) wfX0_28 rfl dX0_setApart_46 ?_
    refine x_iload_n F 2 dX0_setApart_49 rfl ?_
    refine x_dup2 F dX0_setApart_50 rfl rfl ?_
    refine x_iald F 6 (k := b) rfl (by omega) (by decide) dX0_setApart_51 ?_
    refine x_iconst F (nI 1) dX0_setApart_52 (by decide +kernel) ?_
    refine x_iload_n F 1 dX0_setApart_53 rfl ?_
    refine x_ishl F ((nI 1) <<< ((nI a) &&& 31)) dX0_setApart_54 rfl ?_
    refine x_iconst F (-1) dX0_setApart_55 (by decide +kernel) ?_
    refine x_ixor F (((nI 1) <<< ((nI a) &&& 31)) ^^^ (-1)) dX0_setApart_56 rfl ?_
    refine x_iand F (((st2 M 7 a ((M 7 a) &&& (((nI 1) <<< ((nI b) &&& 31)) ^^^ (-1)))) 7 b) &&& (((nI 1) <<< ((nI a) &&& 31)) ^^^ (-1))) dX0_setApart_57 rfl ?_
    refine x_iast F 6 (k := b) (wF cA ad (st2 (st2 M 7 a ((M 7 a) &&& (((nI 1) <<< ((nI b) &&& 31)) ^^^ (-1)))) 7 b (((st2 M 7 a ((M 7 a) &&& (((nI 1) <<< ((nI b) &&& 31)) ^^^ (-1)))) 7 b) &&& (((nI 1) <<< ((nI a) &&& 31)) ^^^ (-1))))) rfl (by omega) (by decide) rfl dX0_setApart_58 ?_
    exact x_vret F (unpartF M a b) (⟨rfl, rfl⟩) (rfl) (by omega) (by omega) dX0_setApart_59
  · have h1n : ¬ 0 = 0 := fun z => h1 (((nI_eq (by decide) (by decide)).mpr z).trans nI_0)
    exact absurd h1n (by decide)

set_option maxHeartbeats 4000000 in
set_option maxRecDepth 100000 in
theorem c_X0_learnOfJob (l : Launch) (D : va_G) (cA : Nat → ClassId) (ad : Nat → Nat) (M : Nat → Nat → Int32) (al : Nat → Nat) (ML : Nat → Nat → Int32) (i k w : Nat) (hi : i < 120) (hw : w < 16) (hk : ML 0 i = nI k) (hk8 : k < 8) (hk3 : k ≠ 3) (hb : k = 4 ∨ k = 5 → ∃ b : Nat, b < 16 ∧ ML 2 i = nI b) : Cg l D cA yX0_learnOfJob cX0_learnOfJob 4 none 1 0 0 ([.ref (ad 100), .ref (al 100), .int (nI i), .int (nI w)] : List Value) ((wF cA ad M) ++ (wL cA al ML)) (fun (r : Option Value) (u : Nat → Nat → Int32) => r = none ∧ u = stepJ ML i w M) (fun u : Nat → Nat → Int32 => (wF cA ad u) ++ (wL cA al ML)) := by
  refine x_met (by decide +kernel) rfl (Nat.le_of_ble_eq_true rfl) ?_
  intro xp xe xs xm xbl xme xco F hnm
  refine x_lv [(0, .ref (ad 100)), (1, .ref (al 100)), (2, .int (nI i)), (3, .int (nI w))] [0, 1, 2, 3] rfl ?_
  refine x_aload_n F 1 dX0_learnOfJob_0 rfl ?_
  refine x_get F inUX1 10 0 rfl rfl (by decide) wfX0_71 rfl dX0_learnOfJob_1 ?_
  refine x_iload_n F 2 dX0_learnOfJob_4 rfl ?_
  refine x_iald F 11 (k := i) rfl (by omega) (by decide) dX0_learnOfJob_5 ?_
  rcases (show k = 0 ∨ k = 1 ∨ k = 2 ∨ k = 4 ∨ k = 5 ∨ k = 6 ∨ k = 7 by omega) with rfl | rfl | rfl | rfl | rfl | rfl | rfl
  · have es : stepJ ML i w M = traitF ML i w (st2 (st2 M 2 w (nI 1)) 1 0 (nI (w + 1))) := by unfold stepJ; rw [hk]; rfl
    refine x_top (nI 0) (hk) ?_
    refine x_tableIn F 52 dX0_learnOfJob_6 (by decide +kernel) (by decide +kernel) (off := 46) (by decide +kernel) (by decide) ?_
    refine x_aload_n F 0 dX0_learnOfJob_52 rfl ?_
    refine x_get F inUX0 0 2 rfl rfl (by decide) wfX0_9 rfl dX0_learnOfJob_53 ?_
    refine x_iload_n F 3 dX0_learnOfJob_56 rfl ?_
    refine x_iconst F (nI 1) dX0_learnOfJob_57 (by decide +kernel) ?_
    refine x_zast F 1 (k := w) ((wF cA ad (st2 M 2 w (nI 1))) ++ (wL cA al ML)) rfl (by omega) (by decide) (by decide +kernel) rfl dX0_learnOfJob_58 ?_
    refine x_aload_n F 0 dX0_learnOfJob_59 rfl ?_
    refine x_iload_n F 3 dX0_learnOfJob_60 rfl ?_
    refine x_iconst F (nI 1) dX0_learnOfJob_61 (by decide +kernel) ?_
    refine x_iadd F (nI (w + 1)) dX0_learnOfJob_62 (nI_add _ _) ?_
    refine x_put F inUX0 tyX0_ok nmX0 0 1 ((wF cA ad (st2 (st2 M 2 w (nI 1)) 1 0 (nI (w + 1)))) ++ (wL cA al ML)) rfl rfl (by decide) wfX0_47 rfl rfl rfl rfl (Nat.le_of_ble_eq_true rfl) rfl dX0_learnOfJob_63 ?_
    refine x_aload_n F 0 dX0_learnOfJob_66 rfl ?_
    refine x_aload_n F 1 dX0_learnOfJob_67 rfl ?_
    refine x_iload_n F 2 dX0_learnOfJob_68 rfl ?_
    refine x_iload_n F 3 dX0_learnOfJob_69 rfl ?_
    refine x_callV F [] ([]) [0, 1, 2, 3, 4, 5, 6, 7, 8, 9, 10, 11, 12, 13, 14, 15] [] (c_X0_setTraits l D cA ad (st2 (st2 M 2 w (nI 1)) 1 0 (nI (w + 1))) al ML i w hi hw) mwX0_setTraits wmX0_84 rfl (q0 := 0) rfl rfl rfl (Nat.le_of_ble_eq_true rfl) ⟨by decide, by decide⟩ ⟨by show _ ≤ 0; omega, by show _ ≤ 0; omega⟩ rfl rfl (by decide) (by decide) (by decide) dX0_learnOfJob_70 (fun r1 u2 hp3 => ?_)
    obtain ⟨rfl, rfl⟩ := hp3
    refine x_goto F 150 dX0_learnOfJob_73 (by decide) ?_
    exact x_vret F (traitF ML i w (st2 (st2 M 2 w (nI 1)) 1 0 (nI (w + 1)))) (⟨rfl, es.symm⟩) (rfl) (by omega) (by omega) dX0_learnOfJob_150
  · have es : stepJ ML i w M = leaveI M w 16 := by unfold stepJ; rw [hk]; rfl
    refine x_top (nI 1) (hk) ?_
    refine x_tableIn F 76 dX0_learnOfJob_6 (by decide +kernel) (by decide +kernel) (off := 70) (by decide +kernel) (by decide) ?_
    refine x_aload_n F 0 dX0_learnOfJob_76 rfl ?_
    refine x_iload_n F 3 dX0_learnOfJob_77 rfl ?_
    refine x_callV F [] (wL cA al ML) [0, 1, 2, 3, 4, 5, 6, 7, 8, 9] [10, 11, 12, 13, 14, 15] (c_X0_leave l D cA ad M w hw) mwX0_leave wmX0_87 rfl (q0 := 0) rfl rfl rfl (Nat.le_of_ble_eq_true rfl) ⟨by decide, by decide⟩ ⟨by show _ ≤ 0; omega, by show _ ≤ 0; omega⟩ rfl rfl (by decide) (by decide) (by decide) dX0_learnOfJob_78 (fun r4 u5 hp6 => ?_)
    obtain ⟨rfl, rfl⟩ := hp6
    refine x_sub ((wF cA ad (leaveI M w 16)) ++ (wL cA al ML)) [6, 7, 8, 9, 10, 11, 12, 13, 14, 15, 0, 1, 2, 3, 4, 5] rfl (by decide) ?_
    refine x_goto F 150 dX0_learnOfJob_81 (by decide) ?_
    exact x_vret F (leaveI M w 16) (⟨rfl, es.symm⟩) (rfl) (by omega) (by omega) dX0_learnOfJob_150
  · have es : stepJ ML i w M = traitF ML i w M := by unfold stepJ; rw [hk]; rfl
    refine x_top (nI 2) (hk) ?_
    refine x_tableIn F 84 dX0_learnOfJob_6 (by decide +kernel) (by decide +kernel) (off := 78) (by decide +kernel) (by decide) ?_
    refine x_aload_n F 0 dX0_learnOfJob_84 rfl ?_
    refine x_aload_n F 1 dX0_learnOfJob_85 rfl ?_
    refine x_iload_n F 2 dX0_learnOfJob_86 rfl ?_
    refine x_iload_n F 3 dX0_learnOfJob_87 rfl ?_
    refine x_callV F [] ([]) [0, 1, 2, 3, 4, 5, 6, 7, 8, 9, 10, 11, 12, 13, 14, 15] [] (c_X0_setTraits l D cA ad M al ML i w hi hw) mwX0_setTraits wmX0_84 rfl (q0 := 0) rfl rfl rfl (Nat.le_of_ble_eq_true rfl) ⟨by decide, by decide⟩ ⟨by show _ ≤ 0; omega, by show _ ≤ 0; omega⟩ rfl rfl (by decide) (by decide) (by decide) dX0_learnOfJob_88 (fun r7 u8 hp9 => ?_)
    obtain ⟨rfl, rfl⟩ := hp9
    refine x_goto F 150 dX0_learnOfJob_91 (by decide) ?_
    exact x_vret F (traitF ML i w M) (⟨rfl, es.symm⟩) (rfl) (by omega) (by omega) dX0_learnOfJob_150
  · obtain ⟨b, hb16, eb⟩ := hb (by omega)
    have es : stepJ ML i w M = partF M w b := by unfold stepJ; rw [hk]; rw [eb, nI_clamp (by omega)]; rfl
    refine x_top (nI 4) (hk) ?_
    refine x_tableIn F 94 dX0_learnOfJob_6 (by decide +kernel) (by decide +kernel) (off := 88) (by decide +kernel) (by decide) ?_
    refine x_aload_n F 0 dX0_learnOfJob_94 rfl ?_
    refine x_iload_n F 3 dX0_learnOfJob_95 rfl ?_
    refine x_aload_n F 1 dX0_learnOfJob_96 rfl ?_
    refine x_get F inUX1 10 2 rfl rfl (by decide) wfX0_77 rfl dX0_learnOfJob_97 ?_
    refine x_iload_n F 2 dX0_learnOfJob_100 rfl ?_
    refine x_iald F 13 (k := i) rfl (by omega) (by decide) dX0_learnOfJob_101 ?_
    refine x_iconst F (nI 1) dX0_learnOfJob_102 (by decide +kernel) ?_
    rw [eb]
    refine x_callV F [] (wL cA al ML) [0, 1, 2, 3, 4, 5, 6, 7, 8, 9] [10, 11, 12, 13, 14, 15] (c_X0_setApart1 l D cA ad M w b hw hb16) mwX0_setApart wmX0_91 rfl (q0 := 0) rfl rfl rfl (Nat.le_of_ble_eq_true rfl) ⟨by decide, by decide⟩ ⟨by show _ ≤ 0; omega, by show _ ≤ 0; omega⟩ rfl rfl (by decide) (by decide) (by decide) dX0_learnOfJob_103 (fun r10 u11 hp12 => ?_)
    obtain ⟨rfl, rfl⟩ := hp12
    refine x_sub ((wF cA ad (partF M w b)) ++ (wL cA al ML)) [6, 7, 8, 9, 10, 11, 12, 13, 14, 15, 0, 1, 2, 3, 4, 5] rfl (by decide) ?_
    refine x_goto F 150 dX0_learnOfJob_106 (by decide) ?_
    exact x_vret F (partF M w b) (⟨rfl, es.symm⟩) (rfl) (by omega) (by omega) dX0_learnOfJob_150
  · obtain ⟨b, hb16, eb⟩ := hb (by omega)
    have es : stepJ ML i w M = unpartF M w b := by unfold stepJ; rw [hk]; rw [eb, nI_clamp (by omega)]; rfl
    refine x_top (nI 5) (hk) ?_
    refine x_tableIn F 109 dX0_learnOfJob_6 (by decide +kernel) (by decide +kernel) (off := 103) (by decide +kernel) (by decide) ?_
    refine x_aload_n F 0 dX0_learnOfJob_109 rfl ?_
    refine x_iload_n F 3 dX0_learnOfJob_110 rfl ?_
    refine x_aload_n F 1 dX0_learnOfJob_111 rfl ?_
    refine x_get F inUX1 10 2 rfl rfl (by decide) wfX0_77 rfl dX0_learnOfJob_112 ?_
    refine x_iload_n F 2 dX0_learnOfJob_115 rfl ?_
    refine x_iald F 13 (k := i) rfl (by omega) (by decide) dX0_learnOfJob_116 ?_
    refine x_iconst F (nI 0) dX0_learnOfJob_117 (by decide +kernel) ?_
    rw [eb]
    refine x_callV F [] (wL cA al ML) [0, 1, 2, 3, 4, 5, 6, 7, 8, 9] [10, 11, 12, 13, 14, 15] (c_X0_setApart0 l D cA ad M w b hw hb16) mwX0_setApart wmX0_91 rfl (q0 := 0) rfl rfl rfl (Nat.le_of_ble_eq_true rfl) ⟨by decide, by decide⟩ ⟨by show _ ≤ 0; omega, by show _ ≤ 0; omega⟩ rfl rfl (by decide) (by decide) (by decide) dX0_learnOfJob_118 (fun r13 u14 hp15 => ?_)
    obtain ⟨rfl, rfl⟩ := hp15
    refine x_sub ((wF cA ad (unpartF M w b)) ++ (wL cA al ML)) [6, 7, 8, 9, 10, 11, 12, 13, 14, 15, 0, 1, 2, 3, 4, 5] rfl (by decide) ?_
    refine x_goto F 150 dX0_learnOfJob_121 (by decide) ?_
    exact x_vret F (unpartF M w b) (⟨rfl, es.symm⟩) (rfl) (by omega) (by omega) dX0_learnOfJob_150
  · have es : stepJ ML i w M = st2 M 6 w (ML 2 i) := by unfold stepJ; rw [hk]; rfl
    refine x_top (nI 6) (hk) ?_
    refine x_tableIn F 124 dX0_learnOfJob_6 (by decide +kernel) (by decide +kernel) (off := 118) (by decide +kernel) (by decide) ?_
    refine x_aload_n F 0 dX0_learnOfJob_124 rfl ?_
    refine x_get F inUX0 0 6 rfl rfl (by decide) wfX0_25 rfl dX0_learnOfJob_125 ?_
    refine x_iload_n F 3 dX0_learnOfJob_128 rfl ?_
    refine x_aload_n F 1 dX0_learnOfJob_129 rfl ?_
    refine x_get F inUX1 10 2 rfl rfl (by decide) wfX0_77 rfl dX0_learnOfJob_130 ?_
    refine x_iload_n F 2 dX0_learnOfJob_133 rfl ?_
    refine x_iald F 13 (k := i) rfl (by omega) (by decide) dX0_learnOfJob_134 ?_
    refine x_iast F 5 (k := w) ((wF cA ad (st2 M 6 w (ML 2 i))) ++ (wL cA al ML)) rfl (by omega) (by decide) rfl dX0_learnOfJob_135 ?_
    refine x_goto F 150 dX0_learnOfJob_136 (by decide) ?_
    exact x_vret F (st2 M 6 w (ML 2 i)) (⟨rfl, es.symm⟩) (rfl) (by omega) (by omega) dX0_learnOfJob_150
  · have es : stepJ ML i w M = st2 M 6 w (-2) := by unfold stepJ; rw [hk]; rfl
    refine x_top (nI 7) (hk) ?_
    refine x_tableIn F 139 dX0_learnOfJob_6 (by decide +kernel) (by decide +kernel) (off := 133) (by decide +kernel) (by decide) ?_
    refine x_aload_n F 0 dX0_learnOfJob_139 rfl ?_
    refine x_get F inUX0 0 6 rfl rfl (by decide) wfX0_25 rfl dX0_learnOfJob_140 ?_
    refine x_iload_n F 3 dX0_learnOfJob_143 rfl ?_
    refine x_bipush F (-2) dX0_learnOfJob_144 (by decide +kernel) ?_
    refine x_iast F 5 (k := w) ((wF cA ad (st2 M 6 w (-2))) ++ (wL cA al ML)) rfl (by omega) (by decide) rfl dX0_learnOfJob_146 ?_
    refine x_goto F 150 dX0_learnOfJob_147 (by decide) ?_
    exact x_vret F (st2 M 6 w (-2)) (⟨rfl, es.symm⟩) (rfl) (by omega) (by omega) dX0_learnOfJob_150

set_option maxHeartbeats 4000000 in
set_option maxRecDepth 100000 in
theorem c_X0_learn (l : Launch) (D : va_G) (cA : Nat → ClassId) (ad : Nat → Nat) (M : Nat → Nat → Int32) (al : Nat → Nat) (ML : Nat → Nat → Int32) (i : Nat) (hi : i < 120) (hw : wfE ML i) : Cg l D cA yX0_learn cX0_learn 3 none 2 0 0 ([.ref (ad 100), .ref (al 100), .int (nI i)] : List Value) ((wF cA ad M) ++ (wL cA al ML)) (fun (r : Option Value) (u : Nat → Nat → Int32) => r = none ∧ u = st2 (stepF ML i M) 0 0 (nI (i + 1))) (fun u : Nat → Nat → Int32 => (wF cA ad u) ++ (wL cA al ML)) := by
  refine x_met (by decide +kernel) rfl (Nat.le_of_ble_eq_true rfl) ?_
  intro xp xe xs xm xbl xme xco F hnm
  refine x_lv [(0, .ref (ad 100)), (1, .ref (al 100)), (2, .int (nI i))] [0, 1, 2] rfl ?_
  obtain ⟨k, w, hk, ew, hk8, h3, hn3, h45, -, -⟩ := hw
  have hw16 : w < 16 := by
    by_cases h : k = 3
    · have := (h3 h).1; omega
    · exact hn3 h
  have ewc : (ML 1 i).toNatClampNeg = w := by rw [ew]; exact nI_clamp (by omega)
  refine x_aload_n F 1 dX0_learn_0 rfl ?_
  refine x_get F inUX1 10 0 rfl rfl (by decide) wfX0_71 rfl dX0_learn_1 ?_
  refine x_iload_n F 2 dX0_learn_4 rfl ?_
  refine x_iald F 11 (k := i) rfl (by omega) (by decide) dX0_learn_5 ?_
  rw [hk]
  refine x_iconst F (nI 3) dX0_learn_6 (by decide +kernel) ?_
  refine x_icmp_ne F 30 dX0_learn_7 (by decide) (fun h7 => ?_) (fun h7 => ?_)
  · have h7n : ¬ k = 3 := fun z => h7 ((nI_eq (by omega) (by decide)).mpr z)
    have es : stepF ML i M = stepJ ML i w M := by unfold stepF; rw [ewc, if_neg (by rw [hk]; exact h7)]
    refine x_aload_n F 0 dX0_learn_30 rfl ?_
    refine x_aload_n F 1 dX0_learn_31 rfl ?_
    refine x_iload_n F 2 dX0_learn_32 rfl ?_
    refine x_aload_n F 1 dX0_learn_33 rfl ?_
    refine x_get F inUX1 10 1 rfl rfl (by decide) wfX0_74 rfl dX0_learn_34 ?_
    refine x_iload_n F 2 dX0_learn_37 rfl ?_
    refine x_iald F 12 (k := i) rfl (by omega) (by decide) dX0_learn_38 ?_
    rw [ew]
    refine x_callV F [] ([]) [0, 1, 2, 3, 4, 5, 6, 7, 8, 9, 10, 11, 12, 13, 14, 15] [] (c_X0_learnOfJob l D cA ad M al ML i k w hi hw16 hk hk8 h7n h45) mwX0_learnOfJob wmX0_80 rfl (q0 := 0) rfl rfl rfl (Nat.le_of_ble_eq_true rfl) ⟨by decide, by decide⟩ ⟨by show _ ≤ 0; omega, by show _ ≤ 0; omega⟩ rfl rfl (by decide) (by decide) (by decide) dX0_learn_39 (fun r1 u2 hp3 => ?_)
    obtain ⟨rfl, rfl⟩ := hp3
    refine x_aload_n F 0 dX0_learn_42 rfl ?_
    refine x_iload_n F 2 dX0_learn_43 rfl ?_
    refine x_iconst F (nI 1) dX0_learn_44 (by decide +kernel) ?_
    refine x_iadd F (nI (i + 1)) dX0_learn_45 (nI_add _ _) ?_
    refine x_put F inUX0 tyX0_ok nmX0 0 0 ((wF cA ad (st2 (stepJ ML i w M) 0 0 (nI (i + 1)))) ++ (wL cA al ML)) rfl rfl (by decide) wfX0_43 rfl rfl rfl rfl (Nat.le_of_ble_eq_true rfl) rfl dX0_learn_46 ?_
    exact x_vret F (st2 (stepJ ML i w M) 0 0 (nI (i + 1))) (⟨rfl, by rw [es]⟩) (rfl) (by omega) (by omega) dX0_learn_49
  · have h7n : k = 3 := (nI_eq (by omega) (by decide)).mp h7
    have es : stepF ML i M = st2 M 8 w (ML 2 i) := by unfold stepF; rw [ewc, if_pos (by rw [hk]; exact h7)]
    have hw6 := (h3 h7n).1
    refine x_aload_n F 0 dX0_learn_10 rfl ?_
    refine x_get F inUX0 0 8 rfl rfl (by decide) wfX0_31 rfl dX0_learn_11 ?_
    refine x_aload_n F 1 dX0_learn_14 rfl ?_
    refine x_get F inUX1 10 1 rfl rfl (by decide) wfX0_74 rfl dX0_learn_15 ?_
    refine x_iload_n F 2 dX0_learn_18 rfl ?_
    refine x_iald F 12 (k := i) rfl (by omega) (by decide) dX0_learn_19 ?_
    rw [ew]
    refine x_aload_n F 1 dX0_learn_20 rfl ?_
    refine x_get F inUX1 10 2 rfl rfl (by decide) wfX0_77 rfl dX0_learn_21 ?_
    refine x_iload_n F 2 dX0_learn_24 rfl ?_
    refine x_iald F 13 (k := i) rfl (by omega) (by decide) dX0_learn_25 ?_
    refine x_iast F 7 (k := w) ((wF cA ad (st2 M 8 w (ML 2 i))) ++ (wL cA al ML)) rfl (by omega) (by decide) rfl dX0_learn_26 ?_
    refine x_goto F 42 dX0_learn_27 (by decide) ?_
    refine x_aload_n F 0 dX0_learn_42 rfl ?_
    refine x_iload_n F 2 dX0_learn_43 rfl ?_
    refine x_iconst F (nI 1) dX0_learn_44 (by decide +kernel) ?_
    refine x_iadd F (nI (i + 1)) dX0_learn_45 (nI_add _ _) ?_
    refine x_put F inUX0 tyX0_ok nmX0 0 0 ((wF cA ad (st2 (st2 M 8 w (ML 2 i)) 0 0 (nI (i + 1)))) ++ (wL cA al ML)) rfl rfl (by decide) wfX0_43 rfl rfl rfl rfl (Nat.le_of_ble_eq_true rfl) rfl dX0_learn_46 ?_
    exact x_vret F (st2 (st2 M 8 w (ML 2 i)) 0 0 (nI (i + 1))) (⟨rfl, by rw [es]⟩) (rfl) (by omega) (by omega) dX0_learn_49

theorem itF_0 (G : Nat → Nat → Int32) (a : Nat) (M : Nat → Nat → Int32) : itF G a 0 M = M := rfl
theorem itF_s (G : Nat → Nat → Int32) (a c : Nat) (M : Nat → Nat → Int32) : st2 (stepF G (a + c) (itF G a c M)) 0 0 (nI (a + c + 1)) = itF G a (c + 1) M := rfl
set_option maxHeartbeats 4000000 in
set_option maxRecDepth 100000 in
theorem c_X0_become (l : Launch) (D : va_G) (cA : Nat → ClassId) (ad : Nat → Nat) (M : Nat → Nat → Int32) (al : Nat → Nat) (ML : Nat → Nat → Int32) (n k cnt : Nat) (hc : ML 5 0 = nI cnt) (hcn : cnt ≤ 120) (hnc : n ≤ cnt) (hk : M 0 0 = nI k) (hkc : k ≤ cnt) (hwf : ∀ i, i < cnt → wfE ML i) : Cg l D cA yX0_become cX0_become 5 none 3 0 0 ([.ref (ad 100), .ref (al 100), .int (nI n)] : List Value) ((wF cA ad M) ++ (wL cA al ML)) (fun (r : Option Value) (u : Nat → Nat → Int32) => r = none ∧ u = becF ML k n M) (fun u : Nat → Nat → Int32 => (wF cA ad u) ++ (wL cA al ML)) := by
  refine x_met (by decide +kernel) rfl (Nat.le_of_ble_eq_true rfl) ?_
  intro xp xe xs xm xbl xme xco F hnm
  refine x_lv [(0, .ref (ad 100)), (1, .ref (al 100)), (2, .int (nI n))] [0, 1, 2] rfl ?_
  refine x_iload_n F 2 dX0_become_0 rfl ?_
  refine x_aload_n F 0 dX0_become_1 rfl ?_
  refine x_get F inUX0 0 0 rfl rfl (by decide) wfX0_43 rfl dX0_become_2 ?_
  rw [hk]
  refine x_icmp_ge F 12 dX0_become_5 (by decide) (fun h5 => ?_) (fun h5 => ?_)
  · have h5n : k ≤ n := (nI_leI (by omega) (by omega)).mp h5
    have eb : becF ML k n M = itF ML k (n - k) M := by unfold becF; rw [if_neg (by omega)]
    refine x_iload_n F 2 dX0_become_12 rfl ?_
    refine x_aload_n F 1 dX0_become_13 rfl ?_
    refine x_get F inUX1 10 5 rfl rfl (by decide) wfX0_56 rfl dX0_become_14 ?_
    rw [hc]
    refine x_mmin F (if (nI cnt) < (nI n) then (nI cnt) else (nI n)) wmX0_61 (by decide) (Nat.le_of_ble_eq_true rfl) (by show _ ≤ 0; omega) (by show _ ≤ 0; omega) rfl dX0_become_17 ?_
    rw [if_neg (show ¬ nI cnt < nI n from nI_nlt hnc (by omega))]
    refine x_istore_n F [(3, .int (nI n)), (0, .ref (ad 100)), (1, .ref (al 100)), (2, .int (nI n))] dX0_become_20 (by decide) rfl ?_
    refine x_aload_n F 1 dX0_become_21 rfl ?_
    refine x_get F inUX0 0 0 rfl rfl (by decide) wfX0_43 rfl dX0_become_22 ?_
    rw [hk]
    refine x_istore F [(4, .int (nI k)), (3, .int (nI n)), (0, .ref (ad 100)), (1, .ref (al 100)), (2, .int (nI n))] dX0_become_25 (by decide) rfl ?_
    refine x_ws ((wF cA ad (itF ML k 0 M)) ++ (wL cA al ML)) rfl ?_
    refine x_lv [(0, .ref (ad 100)), (1, .ref (al 100)), (2, .int (nI n)), (3, .int (nI n)), (4, .int (nI k))] [2, 3, 4, 1, 0] rfl ?_
    refine x_lv [(0, .ref (ad 100)), (1, .ref (al 100)), (2, .int (nI n)), (3, .int (nI n)), (4, .int (nI (k + 0)))] [0, 1, 2, 3, 4] (by rw [Nat.add_zero]; rfl) ?_
    have loop27 : ∀ (nn27 : Nat) (c : Nat), (k + c ≤ n) → (n - (k + c) < nn27) → Wx xp l xe (rmL 3 0 0) xs xm ([.ref (ad 100), .ref (al 100), .int (nI n)] : List Value).toArray xbl xme xco 0 0 (xQ xbl D ((wF cA ad M) ++ (wL cA al ML)) xs ([.ref (ad 100), .ref (al 100), .int (nI n)] : List Value).toArray 0 0 (fun (r : Option Value) (u : Nat → Nat → Int32) => r = none ∧ u = becF ML k n M) (fun u : Nat → Nat → Int32 => (wF cA ad u) ++ (wL cA al ML))) 5 D (va_A ((wF cA ad M) ++ (wL cA al ML)) xs.heap.size) 27 [(0, .ref (ad 100)), (1, .ref (al 100)), (2, .int (nI n)), (3, .int (nI n)), (4, .int (nI (k + c)))] [] ((wF cA ad (itF ML k c M)) ++ (wL cA al ML)) := by
      intro nn27
      induction nn27 with
      | zero =>
        intro c hcc hm27
        exact absurd hm27 (Nat.not_lt_zero _)
      | succ nn27 ih27 =>
        intro c hcc hm27
        refine x_iload F 4 dX0_become_27 rfl ?_
        refine x_iload_n F 3 dX0_become_29 rfl ?_
        refine x_icmp_ge F 46 dX0_become_30 (by decide) (fun h30 => ?_) (fun h30 => ?_)
        · have h30n : n ≤ (k + c) := (nI_leI (by omega) (by omega)).mp h30
          obtain rfl : n - k = c := by omega
          exact x_vret F (itF ML k (n - k) M) (⟨rfl, eb.symm⟩) (rfl) (by omega) (by omega) dX0_become_46
        · have h30n : ¬ n ≤ (k + c) := fun z => h30 ((nI_leI (by omega) (by omega)).mpr z)
          refine x_aload_n F 0 dX0_become_33 rfl ?_
          refine x_aload_n F 1 dX0_become_34 rfl ?_
          refine x_iload F 4 dX0_become_35 rfl ?_
          refine x_callV F [] ([]) [0, 1, 2, 3, 4, 5, 6, 7, 8, 9, 10, 11, 12, 13, 14, 15] [] (c_X0_learn l D cA ad (itF ML k c M) al ML (k + c) (by omega) (hwf _ (by omega))) mwX0_learn wmX0_67 rfl (q0 := 0) rfl rfl rfl (Nat.le_of_ble_eq_true rfl) ⟨by decide, by decide⟩ ⟨by show _ ≤ 0; omega, by show _ ≤ 0; omega⟩ rfl rfl (by decide) (by decide) (by decide) dX0_become_37 (fun r1 u2 hp3 => ?_)
          obtain ⟨rfl, rfl⟩ := hp3
          refine x_iinc F (nI (k + c + 1)) 4 [(4, .int (nI (k + c + 1))), (0, .ref (ad 100)), (1, .ref (al 100)), (2, .int (nI n)), (3, .int (nI n))] dX0_become_40 rfl ((nI_add (k + c) 1)) (by decide) rfl ?_
          refine x_goto F 27 dX0_become_43 (by decide) ?_
          refine x_ws ((wF cA ad (itF ML k (c + 1) M)) ++ (wL cA al ML)) rfl ?_
          refine x_lv [(0, .ref (ad 100)), (1, .ref (al 100)), (2, .int (nI n)), (3, .int (nI n)), (4, .int (nI (k + c + 1)))] [1, 2, 3, 4, 0] rfl ?_
          exact ih27 (c + 1) (by omega) (by omega)
    exact loop27 _ 0 (by omega) (Nat.lt_succ_self _)
  · have h5n : ¬ k ≤ n := fun z => h5 ((nI_leI (by omega) (by omega)).mpr z)
    have eb : becF ML k n M = itF ML 0 n (clr M) := by unfold becF; rw [if_pos (by omega)]
    refine x_aload_n F 0 dX0_become_8 rfl ?_
    refine x_callV F [] (wL cA al ML) [0, 1, 2, 3, 4, 5, 6, 7, 8, 9] [10, 11, 12, 13, 14, 15] (c_X0_clear l D cA ad M) mwX0_clear wmX0_40 rfl (q0 := 0) rfl rfl rfl (Nat.le_of_ble_eq_true rfl) ⟨by decide, by decide⟩ ⟨by show _ ≤ 0; omega, by show _ ≤ 0; omega⟩ rfl rfl (by decide) (by decide) (by decide) dX0_become_9 (fun r4 u5 hp6 => ?_)
    obtain ⟨rfl, rfl⟩ := hp6
    refine x_sub ((wF cA ad (clr M)) ++ (wL cA al ML)) [6, 7, 8, 9, 10, 11, 12, 13, 14, 15, 0, 1, 2, 3, 4, 5] rfl (by decide) ?_
    refine x_iload_n F 2 dX0_become_12 rfl ?_
    refine x_aload_n F 1 dX0_become_13 rfl ?_
    refine x_get F inUX1 10 5 rfl rfl (by decide) wfX0_56 rfl dX0_become_14 ?_
    rw [hc]
    refine x_mmin F (if (nI cnt) < (nI n) then (nI cnt) else (nI n)) wmX0_61 (by decide) (Nat.le_of_ble_eq_true rfl) (by show _ ≤ 0; omega) (by show _ ≤ 0; omega) rfl dX0_become_17 ?_
    rw [if_neg (show ¬ nI cnt < nI n from nI_nlt hnc (by omega))]
    refine x_istore_n F [(3, .int (nI n)), (0, .ref (ad 100)), (1, .ref (al 100)), (2, .int (nI n))] dX0_become_20 (by decide) rfl ?_
    refine x_aload_n F 1 dX0_become_21 rfl ?_
    refine x_get F inUX0 0 0 rfl rfl (by decide) wfX0_43 rfl dX0_become_22 ?_
    rw [show clr M 0 0 = nI 0 from rfl]
    refine x_istore F [(4, .int (nI 0)), (3, .int (nI n)), (0, .ref (ad 100)), (1, .ref (al 100)), (2, .int (nI n))] dX0_become_25 (by decide) rfl ?_
    refine x_ws ((wF cA ad (itF ML 0 0 (clr M))) ++ (wL cA al ML)) rfl ?_
    refine x_lv [(0, .ref (ad 100)), (1, .ref (al 100)), (2, .int (nI n)), (3, .int (nI n)), (4, .int (nI 0))] [2, 3, 4, 1, 0] rfl ?_
    refine x_lv [(0, .ref (ad 100)), (1, .ref (al 100)), (2, .int (nI n)), (3, .int (nI n)), (4, .int (nI (0 + 0)))] [0, 1, 2, 3, 4] (by rw [Nat.add_zero]; rfl) ?_
    have loop27 : ∀ (nn27 : Nat) (c : Nat), (0 + c ≤ n) → (n - (0 + c) < nn27) → Wx xp l xe (rmL 3 0 0) xs xm ([.ref (ad 100), .ref (al 100), .int (nI n)] : List Value).toArray xbl xme xco 0 0 (xQ xbl D ((wF cA ad M) ++ (wL cA al ML)) xs ([.ref (ad 100), .ref (al 100), .int (nI n)] : List Value).toArray 0 0 (fun (r : Option Value) (u : Nat → Nat → Int32) => r = none ∧ u = becF ML k n M) (fun u : Nat → Nat → Int32 => (wF cA ad u) ++ (wL cA al ML))) 5 D (va_A ((wF cA ad M) ++ (wL cA al ML)) xs.heap.size) 27 [(0, .ref (ad 100)), (1, .ref (al 100)), (2, .int (nI n)), (3, .int (nI n)), (4, .int (nI (0 + c)))] [] ((wF cA ad (itF ML 0 c (clr M))) ++ (wL cA al ML)) := by
      intro nn27
      induction nn27 with
      | zero =>
        intro c hcc hm27
        exact absurd hm27 (Nat.not_lt_zero _)
      | succ nn27 ih27 =>
        intro c hcc hm27
        refine x_iload F 4 dX0_become_27 rfl ?_
        refine x_iload_n F 3 dX0_become_29 rfl ?_
        refine x_icmp_ge F 46 dX0_become_30 (by decide) (fun h30 => ?_) (fun h30 => ?_)
        · have h30n : n ≤ (0 + c) := (nI_leI (by omega) (by omega)).mp h30
          obtain rfl : n = c := by omega
          exact x_vret F (itF ML 0 (n) (clr M)) (⟨rfl, eb.symm⟩) (rfl) (by omega) (by omega) dX0_become_46
        · have h30n : ¬ n ≤ (0 + c) := fun z => h30 ((nI_leI (by omega) (by omega)).mpr z)
          refine x_aload_n F 0 dX0_become_33 rfl ?_
          refine x_aload_n F 1 dX0_become_34 rfl ?_
          refine x_iload F 4 dX0_become_35 rfl ?_
          refine x_callV F [] ([]) [0, 1, 2, 3, 4, 5, 6, 7, 8, 9, 10, 11, 12, 13, 14, 15] [] (c_X0_learn l D cA ad (itF ML 0 c (clr M)) al ML (0 + c) (by omega) (hwf _ (by omega))) mwX0_learn wmX0_67 rfl (q0 := 0) rfl rfl rfl (Nat.le_of_ble_eq_true rfl) ⟨by decide, by decide⟩ ⟨by show _ ≤ 0; omega, by show _ ≤ 0; omega⟩ rfl rfl (by decide) (by decide) (by decide) dX0_become_37 (fun r7 u8 hp9 => ?_)
          obtain ⟨rfl, rfl⟩ := hp9
          refine x_iinc F (nI (0 + c + 1)) 4 [(4, .int (nI (0 + c + 1))), (0, .ref (ad 100)), (1, .ref (al 100)), (2, .int (nI n)), (3, .int (nI n))] dX0_become_40 rfl ((nI_add (0 + c) 1)) (by decide) rfl ?_
          refine x_goto F 27 dX0_become_43 (by decide) ?_
          refine x_ws ((wF cA ad (itF ML 0 (c + 1) (clr M))) ++ (wL cA al ML)) rfl ?_
          refine x_lv [(0, .ref (ad 100)), (1, .ref (al 100)), (2, .int (nI n)), (3, .int (nI n)), (4, .int (nI (0 + c + 1)))] [1, 2, 3, 4, 0] rfl ?_
          exact ih27 (c + 1) (by omega) (by omega)
    exact loop27 _ 0 (by omega) (Nat.lt_succ_self _)
end
section
/-! what the class's methods over facts compute, step by step -/
theorem wn {x : Int32} {n : Nat} (hn : n < 2 ^ 31) (h : nI 0 ≤ x ∧ x ≤ nI n) : ∃ j : Nat, j ≤ n ∧ x = nI j := by
  have h0 : ¬ x < 0 := by
    have := h.1
    rw [nI_0] at this
    exact Int32.not_lt.mpr this
  exact nI_of2 (M := nI n) (nI_toInt hn) h0 h.2
theorem wn_in {j n : Nat} (h : j ≤ n) (hn : n < 2 ^ 31) : nI 0 ≤ nI j ∧ nI j ≤ nI n := ⟨nI_le (Nat.zero_le _) (by omega), nI_le h hn⟩
/-- how many jobs below n are there -/
def thc (M : Nat → Nat → Int32) : Nat → Nat
  | 0 => 0
  | n + 1 => if M 2 n = 0 then thc M n else thc M n + 1
theorem thc_le (M : Nat → Nat → Int32) (n : Nat) : thc M n ≤ n := by
  induction n with
  | zero => exact Nat.le_refl _
  | succ n ih => unfold thc; split <;> omega
/-- how many jobs below n may be moved -/
def mvc (M : Nat → Nat → Int32) : Nat → Nat
  | 0 => 0
  | n + 1 => if ¬ M 2 n = 0 ∧ M 6 n = (-2) then mvc M n + 1 else mvc M n
theorem mvc_le (M : Nat → Nat → Int32) (n : Nat) : mvc M n ≤ n := by
  induction n with
  | zero => exact Nat.le_refl _
  | succ n ih => unfold mvc; split <;> omega
/-- the row of those jobs -/
def mvr (M : Nat → Nat → Int32) (f : Nat → Int32) : Nat → Nat → Int32
  | 0 => f
  | n + 1 => if ¬ M 2 n = 0 ∧ M 6 n = (-2) then upd (mvr M f n) (mvc M n) (nI n) else mvr M f n
def isRm (x : Int32) : Prop := nI 0 ≤ x ∧ x ≤ nI 5
/-- scoreOf's loads and guests (rows 9, 10) behind the jobs below n -/
def scT (M : Nat → Nat → Int32) (p : Nat → Int32) : Nat → (Nat → Nat → Int32)
  | 0 => va_up (va_up M 9 (fl (M 9) 6 (nI 0))) 10 (fl (M 10) 6 (nI 0))
  | j + 1 => if M 2 j = 0 then scT M p j else if nI 0 ≤ p j ∧ p j ≤ nI 5 then
      st2 (st2 (scT M p j) 10 (p j).toNatClampNeg (scT M p j 10 (p j).toNatClampNeg ||| bitm j)) 9 (p j).toNatClampNeg (scT M p j 9 (p j).toNatClampNeg + M 3 j) else scT M p j
def hdI (M : Nat → Nat → Int32) (p : Nat → Int32) : Nat → Int32
  | 0 => nI 0
  | j + 1 => if M 2 j = 0 then hdI M p j else if nI 0 ≤ p j ∧ p j ≤ nI 5 then hdI M p j + nI 10 * bcnt (M 7 j &&& scT M p j 10 (p j).toNatClampNeg) else hdI M p j
def absI (x : Int32) : Int32 := if 0 ≤ x then x else 0 - x
def sfI (M : Nat → Nat → Int32) (p : Nat → Int32) : Nat → Int32
  | 0 => nI 0
  | j + 1 => if M 2 j = 0 then sfI M p j else if nI 0 ≤ p j ∧ p j ≤ nI 5 then sfI M p j + M 4 j * absI (p j - M 5 j) else sfI M p j + (nI 7 * M 4 j + nI 1)
def hdO (T : Nat → Nat → Int32) (h : Int32) : Nat → Int32
  | 0 => h
  | r + 1 => hdO T h r + (if nI 0 < T 9 r - T 8 r then T 9 r - T 8 r else nI 0)
def scH (M : Nat → Nat → Int32) (p : Nat → Int32) : Int32 := hdO (scT M p 16) (hdI M p 16) 6
def scS (M : Nat → Nat → Int32) (p : Nat → Int32) : Int32 := sfI M p 16
def pkL (h s : Int32) : Int64 := h.toInt64 <<< ((nI 32).toInt64 &&& 63) + s.toInt64
def scL (M : Nat → Nat → Int32) (p : Nat → Int32) : Int64 := pkL (scH M p) (scS M p)
theorem scT_o (M : Nat → Nat → Int32) (p : Nat → Int32) (k : Nat) (h9 : k ≠ 9) (h10 : k ≠ 10) (n : Nat) : scT M p n k = M k := by
  induction n with
  | zero => simp [scT, va_up, h9, h10]
  | succ n ih =>
    unfold scT
    split
    · exact ih
    · split
      · simp only [st2, va_up, h9, h10, if_false]; exact ih
      · exact ih
theorem sc_no {M : Nat → Nat → Int32} {p : Nat → Int32} {j : Nat} (h : M 2 j = 0) : scT M p (j + 1) = scT M p j ∧ hdI M p (j + 1) = hdI M p j ∧ sfI M p (j + 1) = sfI M p j := by
  simp [scT, hdI, sfI, h]
theorem sc_rm {M : Nat → Nat → Int32} {p : Nat → Int32} {j r : Nat} (h : ¬ M 2 j = 0) (er : p j = nI r) (hr : r ≤ 5) :
    scT M p (j + 1) = st2 (st2 (scT M p j) 10 r (scT M p j 10 r ||| bitm j)) 9 r (scT M p j 9 r + M 3 j) ∧ hdI M p (j + 1) = hdI M p j + nI 10 * bcnt (M 7 j &&& scT M p j 10 r) ∧ sfI M p (j + 1) = sfI M p j + M 4 j * absI (nI r - M 5 j) := by
  have hq := wn_in (n := 5) hr (by decide)
  have ec : (nI r).toNatClampNeg = r := nI_clamp (by omega)
  simp only [scT, hdI, sfI, er, ec, if_neg h, if_pos hq, and_self]
theorem sc_nr {M : Nat → Nat → Int32} {p : Nat → Int32} {j : Nat} (h : ¬ M 2 j = 0) (hn : ¬ (nI 0 ≤ p j ∧ p j ≤ nI 5)) : scT M p (j + 1) = scT M p j ∧ hdI M p (j + 1) = hdI M p j ∧ sfI M p (j + 1) = sfI M p j + (nI 7 * M 4 j + nI 1) := by
  simp only [scT, hdI, sfI, if_neg h, if_neg hn, and_self]
/-- a new object's addresses -/
def adF (h q2 q3 q4 q5 q6 q7 q8 q9 q10 : Nat) : Nat → Nat := fun k => match k with
  | 2 => q2 | 3 => q3 | 4 => q4 | 5 => q5 | 6 => q6 | 7 => q7 | 8 => q8 | 9 => q9 | 10 => q10 | _ => h
def adL (h q0 q1 q2 q3 q4 : Nat) : Nat → Nat := fun k => match k with
  | 0 => q0 | 1 => q1 | 2 => q2 | 3 => q3 | 4 => q4 | _ => h
/-- a change is entered -/
def addL (ML : Nat → Nat → Int32) (n : Nat) (a b c d e : Int32) : Nat → Nat → Int32 := st2 (st2 (st2 (st2 (st2 (st2 ML 0 n a) 1 n b) 2 n c) 3 n d) 4 n e) 5 0 (nI (n + 1))
end
section
/-! Facts: what reads, the score, the constructors; Log -/
theorem has_1 {M : Nat → Nat → Int32} {j : Nat} (hj : j ≤ 15) (h : ¬ M 2 j = 0) : bz ((nI 0 ≤ nI j ∧ nI j ≤ nI 15) ∧ ¬ M 2 (nI j).toNatClampNeg = 0) = nI 1 := bz_t ⟨wn_in hj (by decide), by rw [nI_clamp (by omega)]; exact h⟩
theorem has_2 {M : Nat → Nat → Int32} {j : Nat} (hj : j ≤ 15) (h : M 2 j = 0) : bz ((nI 0 ≤ nI j ∧ nI j ≤ nI 15) ∧ ¬ M 2 (nI j).toNatClampNeg = 0) = nI 0 := bz_f (fun z => z.2 (by rw [nI_clamp (by omega)]; exact h))
theorem has_3 {M : Nat → Nat → Int32} {x : Int32} (h : bz (nI 0 ≤ x ∧ x ≤ nI 15) = 0) : bz ((nI 0 ≤ x ∧ x ≤ nI 15) ∧ ¬ M 2 x.toNatClampNeg = 0) = nI 0 := bz_f (fun z => bz_0.mp h z.1)
set_option maxHeartbeats 4000000 in
set_option maxRecDepth 100000 in
theorem c_X0_has (l : Launch) (D : va_G) (cA : Nat → ClassId) (ad : Nat → Nat) (M : Nat → Nat → Int32) (p0 : Int32)  : Cr l D cA yX0_has cX0_has 2 (some .boolean) 1 ([.ref (ad 100), .int p0] : List Value) (wF cA ad M) (fun r : Option Value => r = some (.int (bz ((nI 0 ≤ p0 ∧ p0 ≤ nI 15) ∧ ¬ M 2 p0.toNatClampNeg = 0)))) := by
  refine x_met (by decide +kernel) rfl (Nat.le_of_ble_eq_true rfl) ?_
  intro xp xe xs xm xbl xme xco F hnm
  refine x_lv [(0, .ref (ad 100)), (1, .int p0)] [0, 1] rfl ?_
  refine x_iload_n F 1 dX0_has_0 rfl ?_
  refine x_iconst F (nI 0) dX0_has_1 (by decide +kernel) ?_
  refine x_bipush F (nI 15) dX0_has_2 (by decide +kernel) ?_
  refine x_callSNr F [] [] (c_X4_isWithin l D cA p0 (nI 0) (nI 15)) mwX4_isWithin F.2.1.2.1.2.1 rfl rfl (Nat.le_of_ble_eq_true rfl) ⟨by decide, by decide⟩ ⟨by show _ ≤ 0; omega, by show _ ≤ 0; omega⟩ rfl (by decide) dX0_has_4 (fun r1 hp2 => ?_)
  subst hp2
  refine x_if_eq F 23 dX0_has_7 (by decide) (fun h7 => ?_) (fun h7 => ?_)
  · refine x_iconst F (nI 0) dX0_has_23 (by decide +kernel) ?_
    exact x_zret F (by decide +kernel) () (by first | rw [has_1 hj h16] | rw [has_2 hj h16] | rw [has_3 h7]) (rfl) (by omega) (by omega) dX0_has_24
  · obtain ⟨j, hj, rfl⟩ := wn (n := 15) (by decide) (bz_n0.mp h7)
    refine x_aload_n F 0 dX0_has_10 rfl ?_
    refine x_get F inUX0 0 2 rfl rfl (by decide) wfX0_9 rfl dX0_has_11 ?_
    refine x_iload_n F 1 dX0_has_14 rfl ?_
    refine x_zald F 1 (k := j) rfl (by omega) (by decide) dX0_has_15 ?_
    refine x_if_eq F 23 dX0_has_16 (by decide) (fun h16 => ?_) (fun h16 => ?_)
    · refine x_iconst F (nI 0) dX0_has_23 (by decide +kernel) ?_
      exact x_zret F (by decide +kernel) () (by first | rw [has_1 hj h16] | rw [has_2 hj h16] | rw [has_3 h7]) (rfl) (by omega) (by omega) dX0_has_24
    · refine x_iconst F (nI 1) dX0_has_19 (by decide +kernel) ?_
      refine x_goto F 24 dX0_has_20 (by decide) ?_
      exact x_zret F (by decide +kernel) () (by first | rw [has_1 hj h16] | rw [has_2 hj h16] | rw [has_3 h7]) (rfl) (by omega) (by omega) dX0_has_24

set_option maxHeartbeats 4000000 in
set_option maxRecDepth 100000 in
theorem c_X0_areApart (l : Launch) (D : va_G) (cA : Nat → ClassId) (ad : Nat → Nat) (M : Nat → Nat → Int32) (a b : Nat) (ha : a < 16) : Cr l D cA yX0_areApart cX0_areApart 3 (some .boolean) 0 ([.ref (ad 100), .int (nI a), .int (nI b)] : List Value) (wF cA ad M) (fun r : Option Value => r = some (.int (bz (M 7 a >>> (nI b &&& 31) &&& nI 1 = nI 1)))) := by
  refine x_met (by decide +kernel) rfl (Nat.le_of_ble_eq_true rfl) ?_
  intro xp xe xs xm xbl xme xco F hnm
  refine x_lv [(0, .ref (ad 100)), (1, .int (nI a)), (2, .int (nI b))] [0, 1, 2] rfl ?_
  refine x_aload_n F 0 dX0_areApart_0 rfl ?_
  refine x_get F inUX0 0 7 rfl rfl (by decide) wfX0_28 rfl dX0_areApart_1 ?_
  refine x_iload_n F 1 dX0_areApart_4 rfl ?_
  refine x_iald F 6 (k := a) rfl (by omega) (by decide) dX0_areApart_5 ?_
  refine x_iload_n F 2 dX0_areApart_6 rfl ?_
  refine x_ishr F ((M 7 a) >>> ((nI b) &&& 31)) dX0_areApart_7 rfl ?_
  refine x_iconst F (nI 1) dX0_areApart_8 (by decide +kernel) ?_
  refine x_iand F (((M 7 a) >>> ((nI b) &&& 31)) &&& (nI 1)) dX0_areApart_9 rfl ?_
  refine x_iconst F (nI 1) dX0_areApart_10 (by decide +kernel) ?_
  refine x_icmp_ne F 18 dX0_areApart_11 (by decide) (fun h11 => ?_) (fun h11 => ?_)
  · refine x_iconst F (nI 0) dX0_areApart_18 (by decide +kernel) ?_
    exact x_zret F (by decide +kernel) () (by first | rw [bz_t h11]; rfl | rw [bz_f h11]; rfl) (rfl) (by omega) (by omega) dX0_areApart_19
  · refine x_iconst F (nI 1) dX0_areApart_14 (by decide +kernel) ?_
    refine x_goto F 19 dX0_areApart_15 (by decide) ?_
    exact x_zret F (by decide +kernel) () (by first | rw [bz_t h11]; rfl | rw [bz_f h11]; rfl) (rfl) (by omega) (by omega) dX0_areApart_19

set_option maxHeartbeats 4000000 in
set_option maxRecDepth 100000 in
theorem c_X0_countThere (l : Launch) (D : va_G) (cA : Nat → ClassId) (ad : Nat → Nat) (M : Nat → Nat → Int32)  : Cr l D cA yX0_countThere cX0_countThere 3 (some .int) 0 ([.ref (ad 100)] : List Value) (wF cA ad M) (fun r : Option Value => r = some (.int (nI (thc M 16)))) := by
  refine x_met (by decide +kernel) rfl (Nat.le_of_ble_eq_true rfl) ?_
  intro xp xe xs xm xbl xme xco F hnm
  refine x_lv [(0, .ref (ad 100))] [0] rfl ?_
  refine x_iconst F (nI 0) dX0_countThere_0 (by decide +kernel) ?_
  refine x_istore_n F [(1, .int (nI 0)), (0, .ref (ad 100))] dX0_countThere_1 (by decide) rfl ?_
  refine x_iconst F (nI 0) dX0_countThere_2 (by decide +kernel) ?_
  refine x_istore_n F [(2, .int (nI 0)), (1, .int (nI 0)), (0, .ref (ad 100))] dX0_countThere_3 (by decide) rfl ?_
  refine x_lv [(0, .ref (ad 100)), (1, .int (nI 0)), (2, .int (nI 0))] [2, 1, 0] rfl ?_
  have loop4 : ∀ (nn4 : Nat) (j : Nat) (k : Nat), (j ≤ 16) → (k = thc M j) → (16 - j < nn4) → Wx xp l xe (rmL 0 0 0) xs xm ([.ref (ad 100)] : List Value).toArray xbl xme xco 0 0 (xQ xbl D (wF cA ad M) xs ([.ref (ad 100)] : List Value).toArray 0 0 (fun (r : Option Value) (_ : Unit) => r = some (.int (nI (thc M 16)))) (fun _ : Unit => wF cA ad M)) 3 D (va_A (wF cA ad M) xs.heap.size) 4 [(0, .ref (ad 100)), (1, .int (nI k)), (2, .int (nI j))] [] (wF cA ad M) := by
    intro nn4
    induction nn4 with
    | zero =>
      intro j k hj ec hm4
      exact absurd hm4 (Nat.not_lt_zero _)
    | succ nn4 ih4 =>
      intro j k hj ec hm4
      refine x_iload_n F 2 dX0_countThere_4 rfl ?_
      refine x_bipush F (nI 16) dX0_countThere_5 (by decide +kernel) ?_
      refine x_icmp_ge F 28 dX0_countThere_7 (by decide) (fun h7 => ?_) (fun h7 => ?_)
      · have h7n : 16 ≤ j := (nI_leI (by decide) (by omega)).mp h7
        obtain rfl : 16 = j := by omega
        refine x_iload_n F 1 dX0_countThere_28 rfl ?_
        exact x_iret F () (by rw [ec]) (rfl) (by omega) (by omega) dX0_countThere_29
      · have h7n : ¬ 16 ≤ j := fun z => h7 ((nI_leI (by decide) (by omega)).mpr z)
        refine x_aload_n F 0 dX0_countThere_10 rfl ?_
        refine x_get F inUX0 0 2 rfl rfl (by decide) wfX0_9 rfl dX0_countThere_11 ?_
        refine x_iload_n F 2 dX0_countThere_14 rfl ?_
        refine x_zald F 1 (k := j) rfl (by omega) (by decide) dX0_countThere_15 ?_
        refine x_if_eq F 22 dX0_countThere_16 (by decide) (fun h16 => ?_) (fun h16 => ?_)
        · refine x_iinc F (nI (j + 1)) 2 [(2, .int (nI (j + 1))), (0, .ref (ad 100)), (1, .int (nI k))] dX0_countThere_22 rfl ((nI_add j 1)) (by decide) rfl ?_
          refine x_goto F 4 dX0_countThere_25 (by decide) ?_
          refine x_lv [(0, .ref (ad 100)), (1, .int (nI k)), (2, .int (nI (j + 1)))] [1, 2, 0] rfl ?_
          exact ih4 (j + 1) k (by omega) (by unfold thc; rw [if_pos h16]; exact ec) (by omega)
        · refine x_iinc F (nI (k + 1)) 1 [(1, .int (nI (k + 1))), (0, .ref (ad 100)), (2, .int (nI j))] dX0_countThere_19 rfl ((nI_add k 1)) (by decide) rfl ?_
          refine x_iinc F (nI (j + 1)) 2 [(2, .int (nI (j + 1))), (1, .int (nI (k + 1))), (0, .ref (ad 100))] dX0_countThere_22 rfl ((nI_add j 1)) (by decide) rfl ?_
          refine x_goto F 4 dX0_countThere_25 (by decide) ?_
          refine x_lv [(0, .ref (ad 100)), (1, .int (nI (k + 1))), (2, .int (nI (j + 1)))] [2, 1, 0] rfl ?_
          exact ih4 (j + 1) (k + 1) (by omega) (by unfold thc; rw [if_neg h16, ec]) (by omega)
  exact loop4 _ 0 0 (Nat.zero_le _) rfl (Nat.lt_succ_self _)

set_option maxHeartbeats 4000000 in
set_option maxRecDepth 100000 in
theorem c_X0_listMovable (l : Launch) (D : va_G) (cA : Nat → ClassId) (ad : Nat → Nat) (M : Nat → Nat → Int32) (q : Nat) (f : Nat → Int32)  : Cg l D cA yX0_listMovable cX0_listMovable 4 (some .int) 0 0 0 ([.ref (ad 100), .ref q] : List Value) ((wF cA ad M) ++ [(q, .inl (cA 0, 16, .inl f))]) (fun (r : Option Value) (u : Nat → Int32) => r = some (.int (nI (mvc M 16))) ∧ u = mvr M f 16) (fun u : Nat → Int32 => (wF cA ad M) ++ [(q, .inl (cA 0, 16, .inl u))]) := by
  refine x_met (by decide +kernel) rfl (Nat.le_of_ble_eq_true rfl) ?_
  intro xp xe xs xm xbl xme xco F hnm
  refine x_lv [(0, .ref (ad 100)), (1, .ref q)] [0, 1] rfl ?_
  refine x_iconst F (nI 0) dX0_listMovable_0 (by decide +kernel) ?_
  refine x_istore_n F [(2, .int (nI 0)), (0, .ref (ad 100)), (1, .ref q)] dX0_listMovable_1 (by decide) rfl ?_
  refine x_iconst F (nI 0) dX0_listMovable_2 (by decide +kernel) ?_
  refine x_istore_n F [(3, .int (nI 0)), (2, .int (nI 0)), (0, .ref (ad 100)), (1, .ref q)] dX0_listMovable_3 (by decide) rfl ?_
  refine x_lv [(0, .ref (ad 100)), (1, .ref q), (2, .int (nI 0)), (3, .int (nI 0))] [2, 3, 1, 0] rfl ?_
  have loop4 : ∀ (nn4 : Nat) (j : Nat) (k : Nat) (h : Nat → Int32), (j ≤ 16) → (k = mvc M j) → (h = mvr M f j) → (16 - j < nn4) → Wx xp l xe (rmL 0 0 0) xs xm ([.ref (ad 100), .ref q] : List Value).toArray xbl xme xco 0 0 (xQ xbl D ((wF cA ad M) ++ [(q, .inl (cA 0, 16, .inl f))]) xs ([.ref (ad 100), .ref q] : List Value).toArray 0 0 (fun (r : Option Value) (u : Nat → Int32) => r = some (.int (nI (mvc M 16))) ∧ u = mvr M f 16) (fun u : Nat → Int32 => (wF cA ad M) ++ [(q, .inl (cA 0, 16, .inl u))])) 4 D (va_A ((wF cA ad M) ++ [(q, .inl (cA 0, 16, .inl f))]) xs.heap.size) 4 [(0, .ref (ad 100)), (1, .ref q), (2, .int (nI k)), (3, .int (nI j))] [] ((wF cA ad M) ++ [(q, .inl (cA 0, 16, .inl h))]) := by
    intro nn4
    induction nn4 with
    | zero =>
      intro j k h hj ec ef hm4
      exact absurd hm4 (Nat.not_lt_zero _)
    | succ nn4 ih4 =>
      intro j k h hj ec ef hm4
      refine x_iload_n F 3 dX0_listMovable_4 rfl ?_
      refine x_bipush F (nI 16) dX0_listMovable_5 (by decide +kernel) ?_
      refine x_icmp_ge F 49 dX0_listMovable_7 (by decide) (fun h7 => ?_) (fun h7 => ?_)
      · have h7n : 16 ≤ j := (nI_leI (by decide) (by omega)).mp h7
        obtain rfl : 16 = j := by omega
        refine x_iload_n F 2 dX0_listMovable_49 rfl ?_
        exact x_iret F h (⟨by rw [ec], ef⟩) (rfl) (by omega) (by omega) dX0_listMovable_50
      · have h7n : ¬ 16 ≤ j := fun z => h7 ((nI_leI (by decide) (by omega)).mpr z)
        have hkj := mvc_le M j
        refine x_iload_n F 2 dX0_listMovable_10 rfl ?_
        refine x_aload_n F 1 dX0_listMovable_11 rfl ?_
        refine x_alen F 10 0 rfl rfl (nI 16) rfl dX0_listMovable_12 ?_
        refine x_icmp_ge F 49 dX0_listMovable_13 (by decide) (fun h13 => ?_) (fun h13 => ?_)
        · have h13n : 16 ≤ k := (nI_leI (by decide) (by omega)).mp h13
          exact absurd (mvc_le M j) (by omega)
        · have h13n : ¬ 16 ≤ k := fun z => h13 ((nI_leI (by decide) (by omega)).mpr z)
          refine x_aload_n F 0 dX0_listMovable_16 rfl ?_
          refine x_get F inUX0 0 2 rfl rfl (by decide) wfX0_9 rfl dX0_listMovable_17 ?_
          refine x_iload_n F 3 dX0_listMovable_20 rfl ?_
          refine x_zald F 1 (k := j) rfl (by omega) (by decide) dX0_listMovable_21 ?_
          refine x_if_eq F 43 dX0_listMovable_22 (by decide) (fun h22 => ?_) (fun h22 => ?_)
          · refine x_iinc F (nI (j + 1)) 3 [(3, .int (nI (j + 1))), (0, .ref (ad 100)), (1, .ref q), (2, .int (nI k))] dX0_listMovable_43 rfl ((nI_add j 1)) (by decide) rfl ?_
            refine x_goto F 4 dX0_listMovable_46 (by decide) ?_
            refine x_lv [(0, .ref (ad 100)), (1, .ref q), (2, .int (nI k)), (3, .int (nI (j + 1)))] [1, 2, 3, 0] rfl ?_
            exact ih4 (j + 1) k h (by omega) (by unfold mvc; rw [if_neg (fun z => z.1 h22), ec]) (by unfold mvr; rw [if_neg (fun z => z.1 h22), ef]) (by omega)
          · refine x_aload_n F 0 dX0_listMovable_25 rfl ?_
            refine x_get F inUX0 0 6 rfl rfl (by decide) wfX0_25 rfl dX0_listMovable_26 ?_
            refine x_iload_n F 3 dX0_listMovable_29 rfl ?_
            refine x_iald F 5 (k := j) rfl (by omega) (by decide) dX0_listMovable_30 ?_
            refine x_bipush F (-2) dX0_listMovable_31 (by decide +kernel) ?_
            refine x_icmp_ne F 43 dX0_listMovable_33 (by decide) (fun h33 => ?_) (fun h33 => ?_)
            · refine x_iinc F (nI (j + 1)) 3 [(3, .int (nI (j + 1))), (0, .ref (ad 100)), (1, .ref q), (2, .int (nI k))] dX0_listMovable_43 rfl ((nI_add j 1)) (by decide) rfl ?_
              refine x_goto F 4 dX0_listMovable_46 (by decide) ?_
              refine x_lv [(0, .ref (ad 100)), (1, .ref q), (2, .int (nI k)), (3, .int (nI (j + 1)))] [1, 2, 3, 0] rfl ?_
              exact ih4 (j + 1) k h (by omega) (by unfold mvc; rw [if_neg (fun z => h33 z.2), ec]) (by unfold mvr; rw [if_neg (fun z => h33 z.2), ef]) (by omega)
            · refine x_aload_n F 1 dX0_listMovable_36 rfl ?_
              refine x_iload_n F 2 dX0_listMovable_37 rfl ?_
              refine x_iload_n F 3 dX0_listMovable_38 rfl ?_
              refine x_iast F 10 (k := k) ((wF cA ad M) ++ [(q, .inl (cA 0, 16, .inl (upd h k (nI j))))]) rfl (by omega) (by decide) rfl dX0_listMovable_39 ?_
              refine x_iinc F (nI (k + 1)) 2 [(2, .int (nI (k + 1))), (0, .ref (ad 100)), (1, .ref q), (3, .int (nI j))] dX0_listMovable_40 rfl ((nI_add k 1)) (by decide) rfl ?_
              refine x_iinc F (nI (j + 1)) 3 [(3, .int (nI (j + 1))), (2, .int (nI (k + 1))), (0, .ref (ad 100)), (1, .ref q)] dX0_listMovable_43 rfl ((nI_add j 1)) (by decide) rfl ?_
              refine x_goto F 4 dX0_listMovable_46 (by decide) ?_
              refine x_lv [(0, .ref (ad 100)), (1, .ref q), (2, .int (nI (k + 1))), (3, .int (nI (j + 1)))] [2, 3, 1, 0] rfl ?_
              exact ih4 (j + 1) (k + 1) (upd h k (nI j)) (by omega) (by unfold mvc; rw [if_pos ⟨h22, h33⟩, ec]) (by unfold mvr; rw [if_pos ⟨h22, h33⟩, ef, ec]) (by omega)
  exact loop4 _ 0 0 f (Nat.zero_le _) rfl rfl (Nat.lt_succ_self _)

set_option maxHeartbeats 4000000 in
set_option maxRecDepth 100000 in
theorem c_X0_scoreOf (l : Launch) (D : va_G) (cA : Nat → ClassId) (ad : Nat → Nat) (M : Nat → Nat → Int32) (q : Nat) (pl : Nat → Int32)  : Cg l D cA yX0_scoreOf cX0_scoreOf 6 (some .long) 2 0 0 ([.ref (ad 100), .ref q] : List Value) ((wF cA ad M) ++ [(q, .inl (cA 0, 16, .inl pl))]) (fun (r : Option Value) (u : Nat → Nat → Int32) => r = some (.long (scL M pl)) ∧ u = scT M pl 16) (fun u : Nat → Nat → Int32 => (wF cA ad u) ++ [(q, .inl (cA 0, 16, .inl pl))]) := by
  refine x_met (by decide +kernel) rfl (Nat.le_of_ble_eq_true rfl) ?_
  intro xp xe xs xm xbl xme xco F hnm
  refine x_lv [(0, .ref (ad 100)), (1, .ref q)] [0, 1] rfl ?_
  refine x_aload_n F 0 dX0_scoreOf_0 rfl ?_
  refine x_get F inUX0 0 9 rfl rfl (by decide) wfX0_34 rfl dX0_scoreOf_1 ?_
  refine x_iconst F (nI 0) dX0_scoreOf_4 (by decide +kernel) ?_
  refine x_callS F [] ([0, 1, 2, 3, 4, 5, 6, 7, 9, 10].filterMap (fun i => ((wF cA ad M) ++ [(q, .inl (cA 0, 16, .inl pl))])[i]?)) [8] [0, 1, 2, 3, 4, 5, 6, 7, 9, 10] (c_J7_fill_53178 l D cA (ad 9) 6 (M 9) (nI 0) (by decide)) mwJ7_fill_53178 wmX0_50 rfl rfl (Nat.le_of_ble_eq_true rfl) ⟨by decide, by decide⟩ ⟨by show _ ≤ 0; omega, by show _ ≤ 0; omega⟩ rfl rfl (by decide) (by decide) (by decide) dX0_scoreOf_5 (fun r1 u2 hp3 => ?_)
  subst hp3
  refine x_sub ((wF cA ad (va_up M 9 (fl (M 9) 6 (nI 0)))) ++ [(q, .inl (cA 0, 16, .inl pl))]) [0, 1, 2, 3, 4, 5, 6, 7, 10, 8, 9] rfl (by decide) ?_
  refine x_aload_n F 0 dX0_scoreOf_8 rfl ?_
  refine x_get F inUX0 0 10 rfl rfl (by decide) wfX0_37 rfl dX0_scoreOf_9 ?_
  refine x_iconst F (nI 0) dX0_scoreOf_12 (by decide +kernel) ?_
  refine x_callS F [] ([0, 1, 2, 3, 4, 5, 6, 7, 8, 10].filterMap (fun i => ((wF cA ad (va_up M 9 (fl (M 9) 6 (nI 0)))) ++ [(q, .inl (cA 0, 16, .inl pl))])[i]?)) [9] [0, 1, 2, 3, 4, 5, 6, 7, 8, 10] (c_J7_fill_53178 l D cA (ad 10) 6 ((va_up M 9 (fl (M 9) 6 (nI 0))) 10) (nI 0) (by decide)) mwJ7_fill_53178 wmX0_50 rfl rfl (Nat.le_of_ble_eq_true rfl) ⟨by decide, by decide⟩ ⟨by show _ ≤ 0; omega, by show _ ≤ 0; omega⟩ rfl rfl (by decide) (by decide) (by decide) dX0_scoreOf_13 (fun r4 u5 hp6 => ?_)
  subst hp6
  refine x_sub ((wF cA ad (va_up (va_up M 9 (fl (M 9) 6 (nI 0))) 10 (fl ((va_up M 9 (fl (M 9) 6 (nI 0))) 10) 6 (nI 0)))) ++ [(q, .inl (cA 0, 16, .inl pl))]) [0, 1, 2, 3, 4, 5, 6, 7, 8, 10, 9] rfl (by decide) ?_
  refine x_iconst F (nI 0) dX0_scoreOf_16 (by decide +kernel) ?_
  refine x_istore_n F [(2, .int (nI 0)), (0, .ref (ad 100)), (1, .ref q)] dX0_scoreOf_17 (by decide) rfl ?_
  refine x_iconst F (nI 0) dX0_scoreOf_18 (by decide +kernel) ?_
  refine x_istore_n F [(3, .int (nI 0)), (2, .int (nI 0)), (0, .ref (ad 100)), (1, .ref q)] dX0_scoreOf_19 (by decide) rfl ?_
  refine x_iconst F (nI 0) dX0_scoreOf_20 (by decide +kernel) ?_
  refine x_istore F [(4, .int (nI 0)), (3, .int (nI 0)), (2, .int (nI 0)), (0, .ref (ad 100)), (1, .ref q)] dX0_scoreOf_21 (by decide) rfl ?_
  refine x_lv [(0, .ref (ad 100)), (1, .ref q), (2, .int (nI 0)), (3, .int (nI 0)), (4, .int (nI 0))] [3, 4, 2, 1, 0] rfl ?_
  have loop23 : ∀ (nn23 : Nat) (j : Nat) (T : Nat → Nat → Int32) (h : Int32) (f : Int32), (j ≤ 16) → (T = scT M pl j) → (h = hdI M pl j) → (f = sfI M pl j) → (16 - j < nn23) → Wx xp l xe (rmL 2 0 0) xs xm ([.ref (ad 100), .ref q] : List Value).toArray xbl xme xco 0 0 (xQ xbl D ((wF cA ad M) ++ [(q, .inl (cA 0, 16, .inl pl))]) xs ([.ref (ad 100), .ref q] : List Value).toArray 0 0 (fun (r : Option Value) (u : Nat → Nat → Int32) => r = some (.long (scL M pl)) ∧ u = scT M pl 16) (fun u : Nat → Nat → Int32 => (wF cA ad u) ++ [(q, .inl (cA 0, 16, .inl pl))])) 6 D (va_A ((wF cA ad M) ++ [(q, .inl (cA 0, 16, .inl pl))]) xs.heap.size) 23 [(0, .ref (ad 100)), (1, .ref q), (2, .int h), (3, .int f), (4, .int (nI j))] [] ((wF cA ad T) ++ [(q, .inl (cA 0, 16, .inl pl))]) := by
    intro nn23
    induction nn23 with
    | zero =>
      intro j T h f hj eT eh es hm23
      exact absurd hm23 (Nat.not_lt_zero _)
    | succ nn23 ih23 =>
      intro j T h f hj eT eh es hm23
      refine x_iload F 4 dX0_scoreOf_23 rfl ?_
      refine x_bipush F (nI 16) dX0_scoreOf_25 (by decide +kernel) ?_
      refine x_icmp_ge F 167 dX0_scoreOf_27 (by decide) (fun h27 => ?_) (fun h27 => ?_)
      · have h27n : 16 ≤ j := (nI_leI (by decide) (by omega)).mp h27
        obtain rfl : 16 = j := by omega
        refine x_iconst F (nI 0) dX0_scoreOf_167 (by decide +kernel) ?_
        refine x_istore F [(4, .int (nI 0)), (0, .ref (ad 100)), (1, .ref q), (2, .int h), (3, .int f)] dX0_scoreOf_168 (by decide) rfl ?_
        refine x_lv [(0, .ref (ad 100)), (1, .ref q), (2, .int h), (3, .int f), (4, .int (nI 0))] [1, 2, 3, 4, 0] rfl ?_
        have loop170 : ∀ (nn170 : Nat) (i : Nat) (x : Int32), (i ≤ 6) → (x = hdO T h i) → (6 - i < nn170) → Wx xp l xe (rmL 2 0 0) xs xm ([.ref (ad 100), .ref q] : List Value).toArray xbl xme xco 0 0 (xQ xbl D ((wF cA ad M) ++ [(q, .inl (cA 0, 16, .inl pl))]) xs ([.ref (ad 100), .ref q] : List Value).toArray 0 0 (fun (r : Option Value) (u : Nat → Nat → Int32) => r = some (.long (scL M pl)) ∧ u = scT M pl 16) (fun u : Nat → Nat → Int32 => (wF cA ad u) ++ [(q, .inl (cA 0, 16, .inl pl))])) 6 D (va_A ((wF cA ad M) ++ [(q, .inl (cA 0, 16, .inl pl))]) xs.heap.size) 170 [(0, .ref (ad 100)), (1, .ref q), (2, .int x), (3, .int f), (4, .int (nI i))] [] ((wF cA ad T) ++ [(q, .inl (cA 0, 16, .inl pl))]) := by
          intro nn170
          induction nn170 with
          | zero =>
            intro i x hi ex hm170
            exact absurd hm170 (Nat.not_lt_zero _)
          | succ nn170 ih170 =>
            intro i x hi ex hm170
            refine x_iload F 4 dX0_scoreOf_170 rfl ?_
            refine x_bipush F (nI 6) dX0_scoreOf_172 (by decide +kernel) ?_
            refine x_icmp_ge F 205 dX0_scoreOf_174 (by decide) (fun h174 => ?_) (fun h174 => ?_)
            · have h174n : 6 ≤ i := (nI_leI (by decide) (by omega)).mp h174
              obtain rfl : 6 = i := by omega
              refine x_iload_n F 2 dX0_scoreOf_205 rfl ?_
              refine x_iload_n F 3 dX0_scoreOf_206 rfl ?_
              refine x_callSNr F [] [] (c_X4_scoreFrom l D cA x f) mwX4_scoreFrom F.2.1.2.1.2.2.2.1 rfl rfl (Nat.le_of_ble_eq_true rfl) ⟨by decide, by decide⟩ ⟨by show _ ≤ 0; omega, by show _ ≤ 0; omega⟩ rfl (by decide) dX0_scoreOf_207 (fun r7 hp8 => ?_)
              subst hp8
              exact x_lret F T (⟨by rw [ex, eh, es, eT]; rfl, eT⟩) (rfl) (by omega) (by omega) dX0_scoreOf_210
            · have h174n : ¬ 6 ≤ i := fun z => h174 ((nI_leI (by decide) (by omega)).mpr z)
              refine x_iload_n F 2 dX0_scoreOf_177 rfl ?_
              refine x_iconst F (nI 0) dX0_scoreOf_178 (by decide +kernel) ?_
              refine x_aload_n F 0 dX0_scoreOf_179 rfl ?_
              refine x_get F inUX0 0 9 rfl rfl (by decide) wfX0_34 rfl dX0_scoreOf_180 ?_
              refine x_iload F 4 dX0_scoreOf_183 rfl ?_
              refine x_iald F 8 (k := i) rfl (by omega) (by decide) dX0_scoreOf_185 ?_
              refine x_aload_n F 0 dX0_scoreOf_186 rfl ?_
              refine x_get F inUX0 0 8 rfl rfl (by decide) wfX0_31 rfl dX0_scoreOf_187 ?_
              refine x_iload F 4 dX0_scoreOf_190 rfl ?_
              refine x_iald F 7 (k := i) rfl (by omega) (by decide) dX0_scoreOf_192 ?_
              refine x_isub F ((T 9 i) - (T 8 i)) dX0_scoreOf_193 rfl ?_
              refine x_mmax F (if (nI 0) < ((T 9 i) - (T 8 i)) then ((T 9 i) - (T 8 i)) else (nI 0)) wmX0_118 (by decide) (Nat.le_of_ble_eq_true rfl) (by show _ ≤ 0; omega) (by show _ ≤ 0; omega) rfl dX0_scoreOf_194 ?_
              refine x_iadd F (x + (if (nI 0) < ((T 9 i) - (T 8 i)) then ((T 9 i) - (T 8 i)) else (nI 0))) dX0_scoreOf_197 rfl ?_
              refine x_istore_n F [(2, .int (x + (if (nI 0) < ((T 9 i) - (T 8 i)) then ((T 9 i) - (T 8 i)) else (nI 0)))), (0, .ref (ad 100)), (1, .ref q), (3, .int f), (4, .int (nI i))] dX0_scoreOf_198 (by decide) rfl ?_
              refine x_iinc F (nI (i + 1)) 4 [(4, .int (nI (i + 1))), (2, .int (x + (if (nI 0) < ((T 9 i) - (T 8 i)) then ((T 9 i) - (T 8 i)) else (nI 0)))), (0, .ref (ad 100)), (1, .ref q), (3, .int f)] dX0_scoreOf_199 rfl ((nI_add i 1)) (by decide) rfl ?_
              refine x_goto F 170 dX0_scoreOf_202 (by decide) ?_
              refine x_lv [(0, .ref (ad 100)), (1, .ref q), (2, .int (x + (if (nI 0) < ((T 9 i) - (T 8 i)) then ((T 9 i) - (T 8 i)) else (nI 0)))), (3, .int f), (4, .int (nI (i + 1)))] [2, 3, 1, 4, 0] rfl ?_
              exact ih170 (i + 1) (x + (if (nI 0) < ((T 9 i) - (T 8 i)) then ((T 9 i) - (T 8 i)) else (nI 0))) (by omega) (by unfold hdO; rw [ex]) (by omega)
        exact loop170 _ 0 _ (Nat.zero_le _) rfl (Nat.lt_succ_self _)
      · have h27n : ¬ 16 ≤ j := fun z => h27 ((nI_leI (by decide) (by omega)).mpr z)
        refine x_iload F 4 dX0_scoreOf_30 rfl ?_
        refine x_aload_n F 1 dX0_scoreOf_32 rfl ?_
        refine x_alen F 10 0 rfl rfl (nI 16) rfl dX0_scoreOf_33 ?_
        refine x_icmp_ge F 167 dX0_scoreOf_34 (by decide) (fun h34 => ?_) (fun h34 => ?_)
        · have h34n : 16 ≤ j := (nI_leI (by decide) (by omega)).mp h34
          exact absurd h34n (by omega)
        · have h34n : ¬ 16 ≤ j := fun z => h34 ((nI_leI (by decide) (by omega)).mpr z)
          refine x_aload_n F 0 dX0_scoreOf_37 rfl ?_
          refine x_get F inUX0 0 2 rfl rfl (by decide) wfX0_9 rfl dX0_scoreOf_38 ?_
          refine x_iload F 4 dX0_scoreOf_41 rfl ?_
          refine x_zald F 1 (k := j) rfl (by omega) (by decide) dX0_scoreOf_43 ?_
          refine x_if_ne F 50 dX0_scoreOf_44 (by decide) (fun h44 => ?_) (fun h44 => ?_)
          · rw [eT, scT_o M pl 2 (by decide) (by decide)] at h44
            refine x_aload_n F 1 dX0_scoreOf_50 rfl ?_
            refine x_iload F 4 dX0_scoreOf_51 rfl ?_
            refine x_iald F 10 (k := j) rfl (by omega) (by decide) dX0_scoreOf_53 ?_
            refine x_istore F [(5, .int (pl j)), (0, .ref (ad 100)), (1, .ref q), (2, .int h), (3, .int f), (4, .int (nI j))] dX0_scoreOf_54 (by decide) rfl ?_
            refine x_iload F 0 dX0_scoreOf_56 rfl ?_
            refine x_callSNr F [] [] (c_X4_isRoom l D cA (pl j)) mwX4_isRoom F.2.1.2.1.2.2.1 rfl rfl (Nat.le_of_ble_eq_true rfl) ⟨by decide, by decide⟩ ⟨by show _ ≤ 0; omega, by show _ ≤ 0; omega⟩ rfl (by decide) dX0_scoreOf_58 (fun r9 hp10 => ?_)
            subst hp10
            refine x_if_eq F 146 dX0_scoreOf_61 (by decide) (fun h61 => ?_) (fun h61 => ?_)
            · refine x_iload_n F 4 dX0_scoreOf_146 rfl ?_
              refine x_bipush F (nI 7) dX0_scoreOf_147 (by decide +kernel) ?_
              refine x_aload_n F 1 dX0_scoreOf_149 rfl ?_
              refine x_get F inUX0 0 4 rfl rfl (by decide) wfX0_19 rfl dX0_scoreOf_150 ?_
              refine x_iload F 5 dX0_scoreOf_153 rfl ?_
              refine x_iald F 3 (k := j) rfl (by omega) (by decide) dX0_scoreOf_155 ?_
              refine x_imul F ((nI 7) * (T 4 j)) dX0_scoreOf_156 rfl ?_
              refine x_iconst F (nI 1) dX0_scoreOf_157 (by decide +kernel) ?_
              refine x_iadd F (((nI 7) * (T 4 j)) + (nI 1)) dX0_scoreOf_158 rfl ?_
              refine x_iadd F (f + (((nI 7) * (T 4 j)) + (nI 1))) dX0_scoreOf_159 rfl ?_
              refine x_istore_n F [(3, .int (f + (((nI 7) * (T 4 j)) + (nI 1)))), (5, .int (pl j)), (0, .ref (ad 100)), (1, .ref q), (2, .int h), (4, .int (nI j))] dX0_scoreOf_160 (by decide) rfl ?_
              refine x_iinc F (nI (j + 1)) 5 [(4, .int (nI (j + 1))), (3, .int (f + (((nI 7) * (T 4 j)) + (nI 1)))), (5, .int (pl j)), (0, .ref (ad 100)), (1, .ref q), (2, .int h)] dX0_scoreOf_161 rfl ((nI_add j 1)) (by decide) rfl ?_
              refine x_goto F 23 dX0_scoreOf_164 (by decide) ?_
              refine x_lv [(0, .ref (ad 100)), (1, .ref q), (2, .int h), (3, .int (f + (((nI 7) * (T 4 j)) + (nI 1)))), (4, .int (nI (j + 1)))] [3, 4, 5, 1, 0] rfl ?_
              exact ih23 (j + 1) T h (f + (((nI 7) * (T 4 j)) + (nI 1))) (by omega) (by rw [(sc_nr h44 (bz_0.mp h61)).1]; exact eT) (by rw [(sc_nr h44 (bz_0.mp h61)).2.1]; exact eh) (by rw [(sc_nr h44 (bz_0.mp h61)).2.2, es, eT, scT_o M pl 4 (by decide) (by decide)]) (by omega)
            · obtain ⟨r, hr, er⟩ := wn (n := 5) (by decide) (bz_n0.mp h61)
              rw [er]
              refine x_iload_n F 3 dX0_scoreOf_64 rfl ?_
              refine x_bipush F (nI 10) dX0_scoreOf_65 (by decide +kernel) ?_
              refine x_aload_n F 1 dX0_scoreOf_67 rfl ?_
              refine x_get F inUX0 0 7 rfl rfl (by decide) wfX0_28 rfl dX0_scoreOf_68 ?_
              refine x_iload F 5 dX0_scoreOf_71 rfl ?_
              refine x_iald F 6 (k := j) rfl (by omega) (by decide) dX0_scoreOf_73 ?_
              refine x_aload_n F 1 dX0_scoreOf_74 rfl ?_
              refine x_get F inUX0 0 10 rfl rfl (by decide) wfX0_37 rfl dX0_scoreOf_75 ?_
              refine x_iload F 0 dX0_scoreOf_78 rfl ?_
              refine x_iald F 9 (k := r) rfl (by omega) (by decide) dX0_scoreOf_80 ?_
              refine x_iand F ((T 7 j) &&& (T 10 r)) dX0_scoreOf_81 rfl ?_
              refine x_callSr F [.int (nI 10), .int h] [] (c_J6_bitCount_0f7a4 l D cA ((T 7 j) &&& (T 10 r))) mwJ6_bitCount_0f7a4 wmX0_109 rfl rfl (Nat.le_of_ble_eq_true rfl) ⟨by decide, by decide⟩ ⟨by show _ ≤ 0; omega, by show _ ≤ 0; omega⟩ rfl (by decide) dX0_scoreOf_82 (fun r11 hp12 => ?_)
              subst hp12
              refine x_imul F ((nI 10) * (bcnt ((T 7 j) &&& (T 10 r)))) dX0_scoreOf_85 rfl ?_
              refine x_iadd F (h + ((nI 10) * (bcnt ((T 7 j) &&& (T 10 r))))) dX0_scoreOf_86 rfl ?_
              refine x_istore_n F [(2, .int (h + ((nI 10) * (bcnt ((T 7 j) &&& (T 10 r)))))), (5, .int (nI r)), (0, .ref (ad 100)), (1, .ref q), (3, .int f), (4, .int (nI j))] dX0_scoreOf_87 (by decide) rfl ?_
              refine x_aload_n F 2 dX0_scoreOf_88 rfl ?_
              refine x_get F inUX0 0 10 rfl rfl (by decide) wfX0_37 rfl dX0_scoreOf_89 ?_
              refine x_iload F 1 dX0_scoreOf_92 rfl ?_
              refine x_dup2 F dX0_scoreOf_94 rfl rfl ?_
              refine x_iald F 9 (k := r) rfl (by omega) (by decide) dX0_scoreOf_95 ?_
              refine x_iconst F (nI 1) dX0_scoreOf_96 (by decide +kernel) ?_
              refine x_iload F 5 dX0_scoreOf_97 rfl ?_
              refine x_ishl F ((nI 1) <<< ((nI j) &&& 31)) dX0_scoreOf_99 rfl ?_
              refine x_ior F ((T 10 r) ||| ((nI 1) <<< ((nI j) &&& 31))) dX0_scoreOf_100 rfl ?_
              refine x_iast F 9 (k := r) ((wF cA ad (st2 T 10 r ((T 10 r) ||| ((nI 1) <<< ((nI j) &&& 31))))) ++ [(q, .inl (cA 0, 16, .inl pl))]) rfl (by omega) (by decide) rfl dX0_scoreOf_101 ?_
              refine x_aload_n F 2 dX0_scoreOf_102 rfl ?_
              refine x_get F inUX0 0 9 rfl rfl (by decide) wfX0_34 rfl dX0_scoreOf_103 ?_
              refine x_iload F 1 dX0_scoreOf_106 rfl ?_
              refine x_dup2 F dX0_scoreOf_108 rfl rfl ?_
              refine x_iald F 8 (k := r) rfl (by omega) (by decide) dX0_scoreOf_109 ?_
              refine x_aload_n F 2 dX0_scoreOf_110 rfl ?_
              refine x_get F inUX0 0 3 rfl rfl (by decide) wfX0_15 rfl dX0_scoreOf_111 ?_
              refine x_iload F 5 dX0_scoreOf_114 rfl ?_
              refine x_iald F 2 (k := j) rfl (by omega) (by decide) dX0_scoreOf_116 ?_
              refine x_iadd F (((st2 T 10 r ((T 10 r) ||| ((nI 1) <<< ((nI j) &&& 31)))) 9 r) + ((st2 T 10 r ((T 10 r) ||| ((nI 1) <<< ((nI j) &&& 31)))) 3 j)) dX0_scoreOf_117 rfl ?_
              refine x_iast F 8 (k := r) ((wF cA ad (st2 (st2 T 10 r ((T 10 r) ||| ((nI 1) <<< ((nI j) &&& 31)))) 9 r (((st2 T 10 r ((T 10 r) ||| ((nI 1) <<< ((nI j) &&& 31)))) 9 r) + ((st2 T 10 r ((T 10 r) ||| ((nI 1) <<< ((nI j) &&& 31)))) 3 j)))) ++ [(q, .inl (cA 0, 16, .inl pl))]) rfl (by omega) (by decide) rfl dX0_scoreOf_118 ?_
              refine x_iload_n F 4 dX0_scoreOf_119 rfl ?_
              refine x_aload_n F 2 dX0_scoreOf_120 rfl ?_
              refine x_get F inUX0 0 4 rfl rfl (by decide) wfX0_19 rfl dX0_scoreOf_121 ?_
              refine x_iload F 5 dX0_scoreOf_124 rfl ?_
              refine x_iald F 3 (k := j) rfl (by omega) (by decide) dX0_scoreOf_126 ?_
              refine x_iload F 1 dX0_scoreOf_127 rfl ?_
              refine x_aload_n F 2 dX0_scoreOf_129 rfl ?_
              refine x_get F inUX0 0 5 rfl rfl (by decide) wfX0_22 rfl dX0_scoreOf_130 ?_
              refine x_iload F 5 dX0_scoreOf_133 rfl ?_
              refine x_iald F 4 (k := j) rfl (by omega) (by decide) dX0_scoreOf_135 ?_
              refine x_isub F ((nI r) - ((st2 (st2 T 10 r ((T 10 r) ||| ((nI 1) <<< ((nI j) &&& 31)))) 9 r (((st2 T 10 r ((T 10 r) ||| ((nI 1) <<< ((nI j) &&& 31)))) 9 r) + ((st2 T 10 r ((T 10 r) ||| ((nI 1) <<< ((nI j) &&& 31)))) 3 j))) 5 j)) dX0_scoreOf_136 rfl ?_
              refine x_mabs F (if 0 ≤ ((nI r) - ((st2 (st2 T 10 r ((T 10 r) ||| ((nI 1) <<< ((nI j) &&& 31)))) 9 r (((st2 T 10 r ((T 10 r) ||| ((nI 1) <<< ((nI j) &&& 31)))) 9 r) + ((st2 T 10 r ((T 10 r) ||| ((nI 1) <<< ((nI j) &&& 31)))) 3 j))) 5 j)) then ((nI r) - ((st2 (st2 T 10 r ((T 10 r) ||| ((nI 1) <<< ((nI j) &&& 31)))) 9 r (((st2 T 10 r ((T 10 r) ||| ((nI 1) <<< ((nI j) &&& 31)))) 9 r) + ((st2 T 10 r ((T 10 r) ||| ((nI 1) <<< ((nI j) &&& 31)))) 3 j))) 5 j)) else 0 - ((nI r) - ((st2 (st2 T 10 r ((T 10 r) ||| ((nI 1) <<< ((nI j) &&& 31)))) 9 r (((st2 T 10 r ((T 10 r) ||| ((nI 1) <<< ((nI j) &&& 31)))) 9 r) + ((st2 T 10 r ((T 10 r) ||| ((nI 1) <<< ((nI j) &&& 31)))) 3 j))) 5 j))) wmX0_115 (by decide) (Nat.le_of_ble_eq_true rfl) (by show _ ≤ 0; omega) (by show _ ≤ 0; omega) rfl dX0_scoreOf_137 ?_
              refine x_imul F (((st2 (st2 T 10 r ((T 10 r) ||| ((nI 1) <<< ((nI j) &&& 31)))) 9 r (((st2 T 10 r ((T 10 r) ||| ((nI 1) <<< ((nI j) &&& 31)))) 9 r) + ((st2 T 10 r ((T 10 r) ||| ((nI 1) <<< ((nI j) &&& 31)))) 3 j))) 4 j) * (if 0 ≤ ((nI r) - ((st2 (st2 T 10 r ((T 10 r) ||| ((nI 1) <<< ((nI j) &&& 31)))) 9 r (((st2 T 10 r ((T 10 r) ||| ((nI 1) <<< ((nI j) &&& 31)))) 9 r) + ((st2 T 10 r ((T 10 r) ||| ((nI 1) <<< ((nI j) &&& 31)))) 3 j))) 5 j)) then ((nI r) - ((st2 (st2 T 10 r ((T 10 r) ||| ((nI 1) <<< ((nI j) &&& 31)))) 9 r (((st2 T 10 r ((T 10 r) ||| ((nI 1) <<< ((nI j) &&& 31)))) 9 r) + ((st2 T 10 r ((T 10 r) ||| ((nI 1) <<< ((nI j) &&& 31)))) 3 j))) 5 j)) else 0 - ((nI r) - ((st2 (st2 T 10 r ((T 10 r) ||| ((nI 1) <<< ((nI j) &&& 31)))) 9 r (((st2 T 10 r ((T 10 r) ||| ((nI 1) <<< ((nI j) &&& 31)))) 9 r) + ((st2 T 10 r ((T 10 r) ||| ((nI 1) <<< ((nI j) &&& 31)))) 3 j))) 5 j)))) dX0_scoreOf_140 rfl ?_
              refine x_iadd F (f + (((st2 (st2 T 10 r ((T 10 r) ||| ((nI 1) <<< ((nI j) &&& 31)))) 9 r (((st2 T 10 r ((T 10 r) ||| ((nI 1) <<< ((nI j) &&& 31)))) 9 r) + ((st2 T 10 r ((T 10 r) ||| ((nI 1) <<< ((nI j) &&& 31)))) 3 j))) 4 j) * (if 0 ≤ ((nI r) - ((st2 (st2 T 10 r ((T 10 r) ||| ((nI 1) <<< ((nI j) &&& 31)))) 9 r (((st2 T 10 r ((T 10 r) ||| ((nI 1) <<< ((nI j) &&& 31)))) 9 r) + ((st2 T 10 r ((T 10 r) ||| ((nI 1) <<< ((nI j) &&& 31)))) 3 j))) 5 j)) then ((nI r) - ((st2 (st2 T 10 r ((T 10 r) ||| ((nI 1) <<< ((nI j) &&& 31)))) 9 r (((st2 T 10 r ((T 10 r) ||| ((nI 1) <<< ((nI j) &&& 31)))) 9 r) + ((st2 T 10 r ((T 10 r) ||| ((nI 1) <<< ((nI j) &&& 31)))) 3 j))) 5 j)) else 0 - ((nI r) - ((st2 (st2 T 10 r ((T 10 r) ||| ((nI 1) <<< ((nI j) &&& 31)))) 9 r (((st2 T 10 r ((T 10 r) ||| ((nI 1) <<< ((nI j) &&& 31)))) 9 r) + ((st2 T 10 r ((T 10 r) ||| ((nI 1) <<< ((nI j) &&& 31)))) 3 j))) 5 j))))) dX0_scoreOf_141 rfl ?_
              refine x_istore_n F [(3, .int (f + (((st2 (st2 T 10 r ((T 10 r) ||| ((nI 1) <<< ((nI j) &&& 31)))) 9 r (((st2 T 10 r ((T 10 r) ||| ((nI 1) <<< ((nI j) &&& 31)))) 9 r) + ((st2 T 10 r ((T 10 r) ||| ((nI 1) <<< ((nI j) &&& 31)))) 3 j))) 4 j) * (if 0 ≤ ((nI r) - ((st2 (st2 T 10 r ((T 10 r) ||| ((nI 1) <<< ((nI j) &&& 31)))) 9 r (((st2 T 10 r ((T 10 r) ||| ((nI 1) <<< ((nI j) &&& 31)))) 9 r) + ((st2 T 10 r ((T 10 r) ||| ((nI 1) <<< ((nI j) &&& 31)))) 3 j))) 5 j)) then ((nI r) - ((st2 (st2 T 10 r ((T 10 r) ||| ((nI 1) <<< ((nI j) &&& 31)))) 9 r (((st2 T 10 r ((T 10 r) ||| ((nI 1) <<< ((nI j) &&& 31)))) 9 r) + ((st2 T 10 r ((T 10 r) ||| ((nI 1) <<< ((nI j) &&& 31)))) 3 j))) 5 j)) else 0 - ((nI r) - ((st2 (st2 T 10 r ((T 10 r) ||| ((nI 1) <<< ((nI j) &&& 31)))) 9 r (((st2 T 10 r ((T 10 r) ||| ((nI 1) <<< ((nI j) &&& 31)))) 9 r) + ((st2 T 10 r ((T 10 r) ||| ((nI 1) <<< ((nI j) &&& 31)))) 3 j))) 5 j)))))), (2, .int (h + ((nI 10) * (bcnt ((T 7 j) &&& (T 10 r)))))), (5, .int (nI r)), (0, .ref (ad 100)), (1, .ref q), (4, .int (nI j))] dX0_scoreOf_142 (by decide) rfl ?_
              refine x_goto F 161 dX0_scoreOf_143 (by decide) ?_
              refine x_iinc F (nI (j + 1)) 5 [(4, .int (nI (j + 1))), (3, .int (f + (((st2 (st2 T 10 r ((T 10 r) ||| ((nI 1) <<< ((nI j) &&& 31)))) 9 r (((st2 T 10 r ((T 10 r) ||| ((nI 1) <<< ((nI j) &&& 31)))) 9 r) + ((st2 T 10 r ((T 10 r) ||| ((nI 1) <<< ((nI j) &&& 31)))) 3 j))) 4 j) * (if 0 ≤ ((nI r) - ((st2 (st2 T 10 r ((T 10 r) ||| ((nI 1) <<< ((nI j) &&& 31)))) 9 r (((st2 T 10 r ((T 10 r) ||| ((nI 1) <<< ((nI j) &&& 31)))) 9 r) + ((st2 T 10 r ((T 10 r) ||| ((nI 1) <<< ((nI j) &&& 31)))) 3 j))) 5 j)) then ((nI r) - ((st2 (st2 T 10 r ((T 10 r) ||| ((nI 1) <<< ((nI j) &&& 31)))) 9 r (((st2 T 10 r ((T 10 r) ||| ((nI 1) <<< ((nI j) &&& 31)))) 9 r) + ((st2 T 10 r ((T 10 r) ||| ((nI 1) <<< ((nI j) &&& 31)))) 3 j))) 5 j)) else 0 - ((nI r) - ((st2 (st2 T 10 r ((T 10 r) ||| ((nI 1) <<< ((nI j) &&& 31)))) 9 r (((st2 T 10 r ((T 10 r) ||| ((nI 1) <<< ((nI j) &&& 31)))) 9 r) + ((st2 T 10 r ((T 10 r) ||| ((nI 1) <<< ((nI j) &&& 31)))) 3 j))) 5 j)))))), (2, .int (h + ((nI 10) * (bcnt ((T 7 j) &&& (T 10 r)))))), (5, .int (nI r)), (0, .ref (ad 100)), (1, .ref q)] dX0_scoreOf_161 rfl ((nI_add j 1)) (by decide) rfl ?_
              refine x_goto F 23 dX0_scoreOf_164 (by decide) ?_
              refine x_lv [(0, .ref (ad 100)), (1, .ref q), (2, .int (h + ((nI 10) * (bcnt ((T 7 j) &&& (T 10 r)))))), (3, .int (f + (((st2 (st2 T 10 r ((T 10 r) ||| ((nI 1) <<< ((nI j) &&& 31)))) 9 r (((st2 T 10 r ((T 10 r) ||| ((nI 1) <<< ((nI j) &&& 31)))) 9 r) + ((st2 T 10 r ((T 10 r) ||| ((nI 1) <<< ((nI j) &&& 31)))) 3 j))) 4 j) * (if 0 ≤ ((nI r) - ((st2 (st2 T 10 r ((T 10 r) ||| ((nI 1) <<< ((nI j) &&& 31)))) 9 r (((st2 T 10 r ((T 10 r) ||| ((nI 1) <<< ((nI j) &&& 31)))) 9 r) + ((st2 T 10 r ((T 10 r) ||| ((nI 1) <<< ((nI j) &&& 31)))) 3 j))) 5 j)) then ((nI r) - ((st2 (st2 T 10 r ((T 10 r) ||| ((nI 1) <<< ((nI j) &&& 31)))) 9 r (((st2 T 10 r ((T 10 r) ||| ((nI 1) <<< ((nI j) &&& 31)))) 9 r) + ((st2 T 10 r ((T 10 r) ||| ((nI 1) <<< ((nI j) &&& 31)))) 3 j))) 5 j)) else 0 - ((nI r) - ((st2 (st2 T 10 r ((T 10 r) ||| ((nI 1) <<< ((nI j) &&& 31)))) 9 r (((st2 T 10 r ((T 10 r) ||| ((nI 1) <<< ((nI j) &&& 31)))) 9 r) + ((st2 T 10 r ((T 10 r) ||| ((nI 1) <<< ((nI j) &&& 31)))) 3 j))) 5 j)))))), (4, .int (nI (j + 1)))] [4, 5, 2, 1, 0] rfl ?_
              exact ih23 (j + 1) (st2 (st2 T 10 r ((T 10 r) ||| ((nI 1) <<< ((nI j) &&& 31)))) 9 r (((st2 T 10 r ((T 10 r) ||| ((nI 1) <<< ((nI j) &&& 31)))) 9 r) + ((st2 T 10 r ((T 10 r) ||| ((nI 1) <<< ((nI j) &&& 31)))) 3 j))) (h + ((nI 10) * (bcnt ((T 7 j) &&& (T 10 r))))) (f + (((st2 (st2 T 10 r ((T 10 r) ||| ((nI 1) <<< ((nI j) &&& 31)))) 9 r (((st2 T 10 r ((T 10 r) ||| ((nI 1) <<< ((nI j) &&& 31)))) 9 r) + ((st2 T 10 r ((T 10 r) ||| ((nI 1) <<< ((nI j) &&& 31)))) 3 j))) 4 j) * (if 0 ≤ ((nI r) - ((st2 (st2 T 10 r ((T 10 r) ||| ((nI 1) <<< ((nI j) &&& 31)))) 9 r (((st2 T 10 r ((T 10 r) ||| ((nI 1) <<< ((nI j) &&& 31)))) 9 r) + ((st2 T 10 r ((T 10 r) ||| ((nI 1) <<< ((nI j) &&& 31)))) 3 j))) 5 j)) then ((nI r) - ((st2 (st2 T 10 r ((T 10 r) ||| ((nI 1) <<< ((nI j) &&& 31)))) 9 r (((st2 T 10 r ((T 10 r) ||| ((nI 1) <<< ((nI j) &&& 31)))) 9 r) + ((st2 T 10 r ((T 10 r) ||| ((nI 1) <<< ((nI j) &&& 31)))) 3 j))) 5 j)) else 0 - ((nI r) - ((st2 (st2 T 10 r ((T 10 r) ||| ((nI 1) <<< ((nI j) &&& 31)))) 9 r (((st2 T 10 r ((T 10 r) ||| ((nI 1) <<< ((nI j) &&& 31)))) 9 r) + ((st2 T 10 r ((T 10 r) ||| ((nI 1) <<< ((nI j) &&& 31)))) 3 j))) 5 j))))) (by omega) (by rw [(sc_rm h44 er hr).1, ← scT_o M pl 3 (by decide) (by decide) j, eT]; rfl) (by rw [(sc_rm h44 er hr).2.1, eh, eT, scT_o M pl 7 (by decide) (by decide)]) (by rw [(sc_rm h44 er hr).2.2, es, ← scT_o M pl 4 (by decide) (by decide) j, ← scT_o M pl 5 (by decide) (by decide) j, eT]; rfl) (by omega)
          · rw [eT, scT_o M pl 2 (by decide) (by decide)] at h44
            refine x_goto F 161 dX0_scoreOf_47 (by decide) ?_
            refine x_iinc F (nI (j + 1)) 4 [(4, .int (nI (j + 1))), (0, .ref (ad 100)), (1, .ref q), (2, .int h), (3, .int f)] dX0_scoreOf_161 rfl ((nI_add j 1)) (by decide) rfl ?_
            refine x_goto F 23 dX0_scoreOf_164 (by decide) ?_
            refine x_lv [(0, .ref (ad 100)), (1, .ref q), (2, .int h), (3, .int f), (4, .int (nI (j + 1)))] [1, 2, 3, 4, 0] rfl ?_
            exact ih23 (j + 1) T h f (by omega) (by rw [(sc_no h44).1]; exact eT) (by rw [(sc_no h44).2.1]; exact eh) (by rw [(sc_no h44).2.2]; exact es) (by omega)
  exact loop23 _ 0 _ _ _ (Nat.zero_le _) rfl rfl rfl (Nat.lt_succ_self _)

set_option maxHeartbeats 4000000 in
set_option maxRecDepth 100000 in
theorem c_X0_init (l : Launch) (D : va_G) (cA : Nat → ClassId) (h0 : Nat)  : Cg l D cA yX0_init cX0_init 1 none 2 9 114 ([.ref h0] : List Value) ([(h0, .inr (0, [.int 0, .int 0, .null, .null, .null, .null, .null, .null, .null, .null, .null]))]) (fun (r : Option Value) (u : (Nat → Nat) × (Nat → Nat → Int32)) => r = none ∧ u.1 100 = h0 ∧ u.2 = clr (fun _ _ => 0)) (fun u : (Nat → Nat) × (Nat → Nat → Int32) => wF cA u.1 u.2) := by
  refine x_met (by decide +kernel) rfl (Nat.le_of_ble_eq_true rfl) ?_
  intro xp xe xs xm xbl xme xco F hnm
  refine x_lv [(0, .ref h0)] [0] rfl ?_
  refine x_aload_n F 0 dX0_init_0 rfl ?_
  refine x_objInit F wmX0_3 wiJO_init wcJO_init (by decide) (Nat.le_of_ble_eq_true rfl) dX0_init_1 ?_
  refine x_aload_n F 0 dX0_init_4 rfl ?_
  refine x_bipush F (nI 16) dX0_init_5 (by decide +kernel) ?_
  refine x_newZ F (k := 16) wa_boolean (by omega) (by show _ ≤ 9; omega) (by show _ ≤ 114; omega) dX0_init_7 (fun q1 => ?_)
  refine x_putF F hnm inUX0 tyX0_ok nmX0 0 2 ([(h0, .inr (0, [.int 0, .int 0, .ref q1, .null, .null, .null, .null, .null, .null, .null, .null]))] ++ [(q1, .inl (cA 2, 16, .inl (fun _ => 0)))]) rfl rfl (by decide) wfX0_9 rfl rfl rfl rfl rfl (Nat.le_of_ble_eq_true rfl) rfl dX0_init_9 ?_
  refine x_aload_n F 0 dX0_init_12 rfl ?_
  refine x_bipush F (nI 16) dX0_init_13 (by decide +kernel) ?_
  refine x_newI F (k := 16) wa_int (by omega) (by show _ ≤ 9; omega) (by show _ ≤ 114; omega) dX0_init_15 (fun q2 => ?_)
  refine x_putF F hnm inUX0 tyX0_ok nmX0 0 3 ([(h0, .inr (0, [.int 0, .int 0, .ref q1, .ref q2, .null, .null, .null, .null, .null, .null, .null]))] ++ [(q1, .inl (cA 2, 16, .inl (fun _ => 0)))] ++ [(q2, .inl (cA 0, 16, .inl (fun _ => 0)))]) rfl rfl (by decide) wfX0_15 rfl rfl rfl rfl rfl (Nat.le_of_ble_eq_true rfl) rfl dX0_init_17 ?_
  refine x_aload_n F 0 dX0_init_20 rfl ?_
  refine x_bipush F (nI 16) dX0_init_21 (by decide +kernel) ?_
  refine x_newI F (k := 16) wa_int (by omega) (by show _ ≤ 9; omega) (by show _ ≤ 114; omega) dX0_init_23 (fun q3 => ?_)
  refine x_putF F hnm inUX0 tyX0_ok nmX0 0 4 ([(h0, .inr (0, [.int 0, .int 0, .ref q1, .ref q2, .ref q3, .null, .null, .null, .null, .null, .null]))] ++ [(q1, .inl (cA 2, 16, .inl (fun _ => 0)))] ++ [(q2, .inl (cA 0, 16, .inl (fun _ => 0)))] ++ [(q3, .inl (cA 0, 16, .inl (fun _ => 0)))]) rfl rfl (by decide) wfX0_19 rfl rfl rfl rfl rfl (Nat.le_of_ble_eq_true rfl) rfl dX0_init_25 ?_
  refine x_aload_n F 0 dX0_init_28 rfl ?_
  refine x_bipush F (nI 16) dX0_init_29 (by decide +kernel) ?_
  refine x_newI F (k := 16) wa_int (by omega) (by show _ ≤ 9; omega) (by show _ ≤ 114; omega) dX0_init_31 (fun q4 => ?_)
  refine x_putF F hnm inUX0 tyX0_ok nmX0 0 5 ([(h0, .inr (0, [.int 0, .int 0, .ref q1, .ref q2, .ref q3, .ref q4, .null, .null, .null, .null, .null]))] ++ [(q1, .inl (cA 2, 16, .inl (fun _ => 0)))] ++ [(q2, .inl (cA 0, 16, .inl (fun _ => 0)))] ++ [(q3, .inl (cA 0, 16, .inl (fun _ => 0)))] ++ [(q4, .inl (cA 0, 16, .inl (fun _ => 0)))]) rfl rfl (by decide) wfX0_22 rfl rfl rfl rfl rfl (Nat.le_of_ble_eq_true rfl) rfl dX0_init_33 ?_
  refine x_aload_n F 0 dX0_init_36 rfl ?_
  refine x_bipush F (nI 16) dX0_init_37 (by decide +kernel) ?_
  refine x_newI F (k := 16) wa_int (by omega) (by show _ ≤ 9; omega) (by show _ ≤ 114; omega) dX0_init_39 (fun q5 => ?_)
  refine x_putF F hnm inUX0 tyX0_ok nmX0 0 6 ([(h0, .inr (0, [.int 0, .int 0, .ref q1, .ref q2, .ref q3, .ref q4, .ref q5, .null, .null, .null, .null]))] ++ [(q1, .inl (cA 2, 16, .inl (fun _ => 0)))] ++ [(q2, .inl (cA 0, 16, .inl (fun _ => 0)))] ++ [(q3, .inl (cA 0, 16, .inl (fun _ => 0)))] ++ [(q4, .inl (cA 0, 16, .inl (fun _ => 0)))] ++ [(q5, .inl (cA 0, 16, .inl (fun _ => 0)))]) rfl rfl (by decide) wfX0_25 rfl rfl rfl rfl rfl (Nat.le_of_ble_eq_true rfl) rfl dX0_init_41 ?_
  refine x_aload_n F 0 dX0_init_44 rfl ?_
  refine x_bipush F (nI 16) dX0_init_45 (by decide +kernel) ?_
  refine x_newI F (k := 16) wa_int (by omega) (by show _ ≤ 9; omega) (by show _ ≤ 114; omega) dX0_init_47 (fun q6 => ?_)
  refine x_putF F hnm inUX0 tyX0_ok nmX0 0 7 ([(h0, .inr (0, [.int 0, .int 0, .ref q1, .ref q2, .ref q3, .ref q4, .ref q5, .ref q6, .null, .null, .null]))] ++ [(q1, .inl (cA 2, 16, .inl (fun _ => 0)))] ++ [(q2, .inl (cA 0, 16, .inl (fun _ => 0)))] ++ [(q3, .inl (cA 0, 16, .inl (fun _ => 0)))] ++ [(q4, .inl (cA 0, 16, .inl (fun _ => 0)))] ++ [(q5, .inl (cA 0, 16, .inl (fun _ => 0)))] ++ [(q6, .inl (cA 0, 16, .inl (fun _ => 0)))]) rfl rfl (by decide) wfX0_28 rfl rfl rfl rfl rfl (Nat.le_of_ble_eq_true rfl) rfl dX0_init_49 ?_
  refine x_aload_n F 0 dX0_init_52 rfl ?_
  refine x_bipush F (nI 6) dX0_init_53 (by decide +kernel) ?_
  refine x_newI F (k := 6) wa_int (by omega) (by show _ ≤ 9; omega) (by show _ ≤ 114; omega) dX0_init_55 (fun q7 => ?_)
  refine x_putF F hnm inUX0 tyX0_ok nmX0 0 8 ([(h0, .inr (0, [.int 0, .int 0, .ref q1, .ref q2, .ref q3, .ref q4, .ref q5, .ref q6, .ref q7, .null, .null]))] ++ [(q1, .inl (cA 2, 16, .inl (fun _ => 0)))] ++ [(q2, .inl (cA 0, 16, .inl (fun _ => 0)))] ++ [(q3, .inl (cA 0, 16, .inl (fun _ => 0)))] ++ [(q4, .inl (cA 0, 16, .inl (fun _ => 0)))] ++ [(q5, .inl (cA 0, 16, .inl (fun _ => 0)))] ++ [(q6, .inl (cA 0, 16, .inl (fun _ => 0)))] ++ [(q7, .inl (cA 0, 6, .inl (fun _ => 0)))]) rfl rfl (by decide) wfX0_31 rfl rfl rfl rfl rfl (Nat.le_of_ble_eq_true rfl) rfl dX0_init_57 ?_
  refine x_aload_n F 0 dX0_init_60 rfl ?_
  refine x_bipush F (nI 6) dX0_init_61 (by decide +kernel) ?_
  refine x_newI F (k := 6) wa_int (by omega) (by show _ ≤ 9; omega) (by show _ ≤ 114; omega) dX0_init_63 (fun q8 => ?_)
  refine x_putF F hnm inUX0 tyX0_ok nmX0 0 9 ([(h0, .inr (0, [.int 0, .int 0, .ref q1, .ref q2, .ref q3, .ref q4, .ref q5, .ref q6, .ref q7, .ref q8, .null]))] ++ [(q1, .inl (cA 2, 16, .inl (fun _ => 0)))] ++ [(q2, .inl (cA 0, 16, .inl (fun _ => 0)))] ++ [(q3, .inl (cA 0, 16, .inl (fun _ => 0)))] ++ [(q4, .inl (cA 0, 16, .inl (fun _ => 0)))] ++ [(q5, .inl (cA 0, 16, .inl (fun _ => 0)))] ++ [(q6, .inl (cA 0, 16, .inl (fun _ => 0)))] ++ [(q7, .inl (cA 0, 6, .inl (fun _ => 0)))] ++ [(q8, .inl (cA 0, 6, .inl (fun _ => 0)))]) rfl rfl (by decide) wfX0_34 rfl rfl rfl rfl rfl (Nat.le_of_ble_eq_true rfl) rfl dX0_init_65 ?_
  refine x_aload_n F 0 dX0_init_68 rfl ?_
  refine x_bipush F (nI 6) dX0_init_69 (by decide +kernel) ?_
  refine x_newI F (k := 6) wa_int (by omega) (by show _ ≤ 9; omega) (by show _ ≤ 114; omega) dX0_init_71 (fun q9 => ?_)
  refine x_putF F hnm inUX0 tyX0_ok nmX0 0 10 ([(h0, .inr (0, [.int 0, .int 0, .ref q1, .ref q2, .ref q3, .ref q4, .ref q5, .ref q6, .ref q7, .ref q8, .ref q9]))] ++ [(q1, .inl (cA 2, 16, .inl (fun _ => 0)))] ++ [(q2, .inl (cA 0, 16, .inl (fun _ => 0)))] ++ [(q3, .inl (cA 0, 16, .inl (fun _ => 0)))] ++ [(q4, .inl (cA 0, 16, .inl (fun _ => 0)))] ++ [(q5, .inl (cA 0, 16, .inl (fun _ => 0)))] ++ [(q6, .inl (cA 0, 16, .inl (fun _ => 0)))] ++ [(q7, .inl (cA 0, 6, .inl (fun _ => 0)))] ++ [(q8, .inl (cA 0, 6, .inl (fun _ => 0)))] ++ [(q9, .inl (cA 0, 6, .inl (fun _ => 0)))]) rfl rfl (by decide) wfX0_37 rfl rfl rfl rfl rfl (Nat.le_of_ble_eq_true rfl) rfl dX0_init_73 ?_
  refine x_aload_n F 0 dX0_init_76 rfl ?_
  refine x_ws (wF cA (adF h0 q1 q2 q3 q4 q5 q6 q7 q8 q9) (fun _ _ => 0)) rfl ?_
  refine x_callV F [] ([]) [0, 1, 2, 3, 4, 5, 6, 7, 8, 9] [] (c_X0_clear l D cA (adF h0 q1 q2 q3 q4 q5 q6 q7 q8 q9) (fun _ _ => 0)) mwX0_clear wmX0_40 rfl (q0 := 0) rfl rfl rfl (Nat.le_of_ble_eq_true rfl) ⟨by decide, by decide⟩ ⟨by show _ ≤ 9; omega, by show _ ≤ 114; omega⟩ rfl rfl (by decide) (by decide) (by decide) dX0_init_77 (fun r10 u11 hp12 => ?_)
  obtain ⟨rfl, rfl⟩ := hp12
  exact x_vret F ((adF h0 q1 q2 q3 q4 q5 q6 q7 q8 q9), clr (fun _ _ => 0)) (⟨rfl, rfl, rfl⟩) (rfl) (by omega) (by omega) dX0_init_80

set_option maxHeartbeats 4000000 in
set_option maxRecDepth 100000 in
theorem c_X1_init (l : Launch) (D : va_G) (cA : Nat → ClassId) (h0 : Nat)  : Cg l D cA yX1_init cX1_init 1 none 1 5 600 ([.ref h0] : List Value) ([(h0, .inr (1, [.null, .null, .null, .null, .null, .int 0]))]) (fun (r : Option Value) (u : Nat → Nat) => r = none ∧ u 100 = h0) (fun u : Nat → Nat => wL cA u (fun _ _ => 0)) := by
  refine x_met (by decide +kernel) rfl (Nat.le_of_ble_eq_true rfl) ?_
  intro xp xe xs xm xbl xme xco F hnm
  refine x_lv [(0, .ref h0)] [0] rfl ?_
  refine x_aload_n F 0 dX1_init_0 rfl ?_
  refine x_objInit F wmX1_3 wiJO_init wcJO_init (by decide) (Nat.le_of_ble_eq_true rfl) dX1_init_1 ?_
  refine x_aload_n F 0 dX1_init_4 rfl ?_
  refine x_bipush F (nI 120) dX1_init_5 (by decide +kernel) ?_
  refine x_newI F (k := 120) wa_int (by omega) (by show _ ≤ 5; omega) (by show _ ≤ 600; omega) dX1_init_7 (fun q1 => ?_)
  refine x_putF F hnm inUX1 tyX1_ok nmX1 0 0 ([(h0, .inr (1, [.ref q1, .null, .null, .null, .null, .int 0]))] ++ [(q1, .inl (cA 0, 120, .inl (fun _ => 0)))]) rfl rfl (by decide) wfX1_9 rfl rfl rfl rfl rfl (Nat.le_of_ble_eq_true rfl) rfl dX1_init_9 ?_
  refine x_aload_n F 0 dX1_init_12 rfl ?_
  refine x_bipush F (nI 120) dX1_init_13 (by decide +kernel) ?_
  refine x_newI F (k := 120) wa_int (by omega) (by show _ ≤ 5; omega) (by show _ ≤ 600; omega) dX1_init_15 (fun q2 => ?_)
  refine x_putF F hnm inUX1 tyX1_ok nmX1 0 1 ([(h0, .inr (1, [.ref q1, .ref q2, .null, .null, .null, .int 0]))] ++ [(q1, .inl (cA 0, 120, .inl (fun _ => 0)))] ++ [(q2, .inl (cA 0, 120, .inl (fun _ => 0)))]) rfl rfl (by decide) wfX1_15 rfl rfl rfl rfl rfl (Nat.le_of_ble_eq_true rfl) rfl dX1_init_17 ?_
  refine x_aload_n F 0 dX1_init_20 rfl ?_
  refine x_bipush F (nI 120) dX1_init_21 (by decide +kernel) ?_
  refine x_newI F (k := 120) wa_int (by omega) (by show _ ≤ 5; omega) (by show _ ≤ 600; omega) dX1_init_23 (fun q3 => ?_)
  refine x_putF F hnm inUX1 tyX1_ok nmX1 0 2 ([(h0, .inr (1, [.ref q1, .ref q2, .ref q3, .null, .null, .int 0]))] ++ [(q1, .inl (cA 0, 120, .inl (fun _ => 0)))] ++ [(q2, .inl (cA 0, 120, .inl (fun _ => 0)))] ++ [(q3, .inl (cA 0, 120, .inl (fun _ => 0)))]) rfl rfl (by decide) wfX1_18 rfl rfl rfl rfl rfl (Nat.le_of_ble_eq_true rfl) rfl dX1_init_25 ?_
  refine x_aload_n F 0 dX1_init_28 rfl ?_
  refine x_bipush F (nI 120) dX1_init_29 (by decide +kernel) ?_
  refine x_newI F (k := 120) wa_int (by omega) (by show _ ≤ 5; omega) (by show _ ≤ 600; omega) dX1_init_31 (fun q4 => ?_)
  refine x_putF F hnm inUX1 tyX1_ok nmX1 0 3 ([(h0, .inr (1, [.ref q1, .ref q2, .ref q3, .ref q4, .null, .int 0]))] ++ [(q1, .inl (cA 0, 120, .inl (fun _ => 0)))] ++ [(q2, .inl (cA 0, 120, .inl (fun _ => 0)))] ++ [(q3, .inl (cA 0, 120, .inl (fun _ => 0)))] ++ [(q4, .inl (cA 0, 120, .inl (fun _ => 0)))]) rfl rfl (by decide) wfX1_21 rfl rfl rfl rfl rfl (Nat.le_of_ble_eq_true rfl) rfl dX1_init_33 ?_
  refine x_aload_n F 0 dX1_init_36 rfl ?_
  refine x_bipush F (nI 120) dX1_init_37 (by decide +kernel) ?_
  refine x_newI F (k := 120) wa_int (by omega) (by show _ ≤ 5; omega) (by show _ ≤ 600; omega) dX1_init_39 (fun q5 => ?_)
  refine x_putF F hnm inUX1 tyX1_ok nmX1 0 4 ([(h0, .inr (1, [.ref q1, .ref q2, .ref q3, .ref q4, .ref q5, .int 0]))] ++ [(q1, .inl (cA 0, 120, .inl (fun _ => 0)))] ++ [(q2, .inl (cA 0, 120, .inl (fun _ => 0)))] ++ [(q3, .inl (cA 0, 120, .inl (fun _ => 0)))] ++ [(q4, .inl (cA 0, 120, .inl (fun _ => 0)))] ++ [(q5, .inl (cA 0, 120, .inl (fun _ => 0)))]) rfl rfl (by decide) wfX1_24 rfl rfl rfl rfl rfl (Nat.le_of_ble_eq_true rfl) rfl dX1_init_41 ?_
  refine x_aload_n F 0 dX1_init_44 rfl ?_
  refine x_iconst F (nI 0) dX1_init_45 (by decide +kernel) ?_
  refine x_put F inUX1 tyX1_ok nmX1 0 5 ([(h0, .inr (1, [.ref q1, .ref q2, .ref q3, .ref q4, .ref q5, .int (nI 0)]))] ++ [(q1, .inl (cA 0, 120, .inl (fun _ => 0)))] ++ [(q2, .inl (cA 0, 120, .inl (fun _ => 0)))] ++ [(q3, .inl (cA 0, 120, .inl (fun _ => 0)))] ++ [(q4, .inl (cA 0, 120, .inl (fun _ => 0)))] ++ [(q5, .inl (cA 0, 120, .inl (fun _ => 0)))]) rfl rfl (by decide) wfX1_27 rfl rfl rfl rfl (Nat.le_of_ble_eq_true rfl) rfl dX1_init_46 ?_
  exact x_vret F (adL h0 q1 q2 q3 q4 q5) (⟨rfl, rfl⟩) (rfl) (by omega) (by omega) dX1_init_49

set_option maxHeartbeats 4000000 in
set_option maxRecDepth 100000 in
theorem c_X1_add (l : Launch) (D : va_G) (cA : Nat → ClassId) (al : Nat → Nat) (ML : Nat → Nat → Int32) (n : Nat) (p1 p2 p3 p4 p5 : Int32) (hc : ML 5 0 = nI n) (hn : n < 120) : Cg l D cA yX1_add cX1_add 6 none 0 0 0 ([.ref (al 100), .int p1, .int p2, .int p3, .int p4, .int p5] : List Value) (wL cA al ML) (fun (r : Option Value) (u : Nat → Nat → Int32) => r = none ∧ u = addL ML n p1 p2 p3 p4 p5) (fun u : Nat → Nat → Int32 => wL cA al u) := by
  refine x_met (by decide +kernel) rfl (Nat.le_of_ble_eq_true rfl) ?_
  intro xp xe xs xm xbl xme xco F hnm
  refine x_lv [(0, .ref (al 100)), (1, .int p1), (2, .int p2), (3, .int p3), (4, .int p4), (5, .int p5)] [0, 1, 2, 3, 4, 5] rfl ?_
  refine x_aload_n F 0 dX1_add_0 rfl ?_
  refine x_get F inUX1 0 5 rfl rfl (by decide) wfX1_27 rfl dX1_add_1 ?_
  refine x_top (nI n) (hc) ?_
  refine x_bipush F (nI 120) dX1_add_4 (by decide +kernel) ?_
  refine x_icmp_lt F 10 dX1_add_6 (by decide) (fun h6 => ?_) (fun h6 => ?_)
  · have h6n : n < 120 := (nI_ltI (by omega) (by decide)).mp h6
    refine x_aload_n F 0 dX1_add_10 rfl ?_
    refine x_get F inUX1 0 0 rfl rfl (by decide) wfX1_9 rfl dX1_add_11 ?_
    refine x_aload_n F 0 dX1_add_14 rfl ?_
    refine x_get F inUX1 0 5 rfl rfl (by decide) wfX1_27 rfl dX1_add_15 ?_
    refine x_top (nI n) (hc) ?_
    refine x_iload_n F 1 dX1_add_18 rfl ?_
    refine x_iast F 1 (k := n) (wL cA al (st2 ML 0 n p1)) rfl (by omega) (by decide) rfl dX1_add_19 ?_
    refine x_aload_n F 0 dX1_add_20 rfl ?_
    refine x_get F inUX1 0 1 rfl rfl (by decide) wfX1_15 rfl dX1_add_21 ?_
    refine x_aload_n F 0 dX1_add_24 rfl ?_
    refine x_get F inUX1 0 5 rfl rfl (by decide) wfX1_27 rfl dX1_add_25 ?_
    refine x_top (nI n) (hc) ?_
    refine x_iload_n F 2 dX1_add_28 rfl ?_
    refine x_iast F 2 (k := n) (wL cA al (st2 (st2 ML 0 n p1) 1 n p2)) rfl (by omega) (by decide) rfl dX1_add_29 ?_
    refine x_aload_n F 0 dX1_add_30 rfl ?_
    refine x_get F inUX1 0 2 rfl rfl (by decide) wfX1_18 rfl dX1_add_31 ?_
    refine x_aload_n F 0 dX1_add_34 rfl ?_
    refine x_get F inUX1 0 5 rfl rfl (by decide) wfX1_27 rfl dX1_add_35 ?_
    refine x_top (nI n) (hc) ?_
    refine x_iload_n F 3 dX1_add_38 rfl ?_
    refine x_iast F 3 (k := n) (wL cA al (st2 (st2 (st2 ML 0 n p1) 1 n p2) 2 n p3)) rfl (by omega) (by decide) rfl dX1_add_39 ?_
    refine x_aload_n F 0 dX1_add_40 rfl ?_
    refine x_get F inUX1 0 3 rfl rfl (by decide) wfX1_21 rfl dX1_add_41 ?_
    refine x_aload_n F 0 dX1_add_44 rfl ?_
    refine x_get F inUX1 0 5 rfl rfl (by decide) wfX1_27 rfl dX1_add_45 ?_
    refine x_top (nI n) (hc) ?_
    refine x_iload F 4 dX1_add_48 rfl ?_
    refine x_iast F 4 (k := n) (wL cA al (st2 (st2 (st2 (st2 ML 0 n p1) 1 n p2) 2 n p3) 3 n p4)) rfl (by omega) (by decide) rfl dX1_add_50 ?_
    refine x_aload_n F 0 dX1_add_51 rfl ?_
    refine x_get F inUX1 0 4 rfl rfl (by decide) wfX1_24 rfl dX1_add_52 ?_
    refine x_aload_n F 0 dX1_add_55 rfl ?_
    refine x_get F inUX1 0 5 rfl rfl (by decide) wfX1_27 rfl dX1_add_56 ?_
    refine x_top (nI n) (hc) ?_
    refine x_iload F 5 dX1_add_59 rfl ?_
    refine x_iast F 5 (k := n) (wL cA al (st2 (st2 (st2 (st2 (st2 ML 0 n p1) 1 n p2) 2 n p3) 3 n p4) 4 n p5)) rfl (by omega) (by decide) rfl dX1_add_61 ?_
    refine x_aload_n F 0 dX1_add_62 rfl ?_
    refine x_dup F dX1_add_63 rfl ?_
    refine x_get F inUX1 0 5 rfl rfl (by decide) wfX1_27 rfl dX1_add_64 ?_
    refine x_top (nI n) (hc) ?_
    refine x_iconst F (nI 1) dX1_add_67 (by decide +kernel) ?_
    refine x_iadd F (nI (n + 1)) dX1_add_68 (nI_add _ _) ?_
    refine x_put F inUX1 tyX1_ok nmX1 0 5 (wL cA al (st2 (st2 (st2 (st2 (st2 (st2 ML 0 n p1) 1 n p2) 2 n p3) 3 n p4) 4 n p5) 5 0 (nI (n + 1)))) rfl rfl (by decide) wfX1_27 rfl rfl rfl rfl (Nat.le_of_ble_eq_true rfl) rfl dX1_add_69 ?_
    exact x_vret F (addL ML n p1 p2 p3 p4 p5) (⟨rfl, rfl⟩) (rfl) (by omega) (by omega) dX1_add_72
  · have h6n : ¬ n < 120 := fun z => h6 ((nI_ltI (by omega) (by decide)).mpr z)
    exact absurd h6n (by omega)
end
section
/-! what the class's Solve computes: MS its numbers (1 plan, 2 best, 5 movable, 8 steps, 9 x, 10, 11), JS its longs (3 late, 6 planScore, 7 bestScore), M its facts -/
def flwS (G : Nat → Nat → Int32) (i : Nat) (MS : Nat → Nat → Int32) : Nat → Nat → Int32 :=
  if G 0 i = nI 0 ∨ G 0 i = nI 1 then st2 (st2 MS 1 (G 1 i).toNatClampNeg (-1)) 2 (G 1 i).toNatClampNeg (-1)
  else if G 0 i = nI 6 then st2 (st2 MS 1 (G 1 i).toNatClampNeg (G 2 i)) 2 (G 1 i).toNatClampNeg (G 2 i) else MS
def itS (G : Nat → Nat → Int32) (a : Nat) : Nat → (Nat → Nat → Int32) → (Nat → Nat → Int32)
  | 0, M => M
  | c + 1, M => flwS G (a + c) (itS G a c M)
abbrev SJM : Type := (Nat → Nat → Int32) × (Nat → Nat → Int64) × (Nat → Nat → Int32)
def anew (σ : SJM) : SJM := (σ.1, st3 (st3 σ.2.1 6 0 (scL σ.2.2 (σ.1 1))) 7 0 (scL (scT σ.2.2 (σ.1 1) 16) (σ.1 2)), scT (scT σ.2.2 (σ.1 1) 16) (σ.1 2) 16)
def keepB (σ : SJM) : SJM := if σ.2.1 6 0 < σ.2.1 7 0 then (st2 (va_up σ.1 2 (va_cpy (σ.1 1) (σ.1 2) 0 0 16)) 11 0 (σ.1 11 0 + nI 1), st3 σ.2.1 7 0 (σ.2.1 6 0), σ.2.2) else σ
def lateA (L : Nat) (σ : SJM) : SJM := (σ.1, va_up σ.2.1 3 (fl (σ.2.1 3) L (σ.2.1 6 0)), σ.2.2)
/-- catching up from k to n, where k is less than n -/
def catchS (G : Nat → Nat → Int32) (k n L : Nat) (σ : SJM) : SJM := lateA L (keepB (anew (itS G k (n - k) σ.1, σ.2.1, becF G k n σ.2.2)))
def unat (x : Int32) (k : Nat) : Nat := x.toBitVec.toNat / 2 ^ k
theorem unat_lt (x : Int32) {k : Nat} (h1 : 1 ≤ k) : unat x k < 2 ^ 31 := by
  unfold unat
  have h := x.toBitVec.isLt
  calc x.toBitVec.toNat / 2 ^ k ≤ x.toBitVec.toNat / 2 ^ 1 := Nat.div_le_div_left (Nat.pow_le_pow_right (by decide) h1) (by decide)
    _ < 2 ^ 31 := by omega
theorem ush_eq (x : Int32) (k : Nat) (hk : (((nI k).toUInt32 &&& Int32.toUInt32 31).toBitVec % 32).toNat = k) : (x.toUInt32 >>> ((nI k).toUInt32 &&& Int32.toUInt32 31)).toInt32 = nI (unat x k) := by
  apply Int32.toBitVec_inj.mp
  apply BitVec.eq_of_toNat_eq
  rw [pk_ushr x (nI k) k hk]
  have h : unat x k < 2 ^ 32 := Nat.lt_of_le_of_lt (Nat.div_le_self _ _) x.toBitVec.isLt
  rw [pk_tn h]
  rfl
def jIx (MS : Nat → Nat → Int32) (mm k : Nat) : Nat := (MS 5 (unat (MS 9 0) k % mm)).toNatClampNeg
/-- the plan that a step tries -/
def tpl (MS : Nat → Nat → Int32) (mm : Nat) : Nat → Int32 :=
  if unat (MS 9 0) 8 % 4 = 3 then upd (upd (MS 1) (jIx MS mm 16) (MS 1 (jIx MS mm 20))) (jIx MS mm 20) (MS 1 (jIx MS mm 16))
  else upd (MS 1) (jIx MS mm 16) (if unat (MS 9 0) 24 % 7 ≤ 5 then nI (unat (MS 9 0) 24 % 7) else (-1))
def tryS (mm : Nat) (late : Int64) (σ : SJM) : SJM :=
  if σ.2.1 6 0 < scL σ.2.2 (tpl σ.1 mm) ∧ late < scL σ.2.2 (tpl σ.1 mm) then (σ.1, σ.2.1, scT σ.2.2 (tpl σ.1 mm) 16)
  else (st2 (va_up σ.1 1 (tpl σ.1 mm)) 10 0 (σ.1 10 0 + nI 1), st3 σ.2.1 6 0 (scL σ.2.2 (tpl σ.1 mm)), scT σ.2.2 (tpl σ.1 mm) 16)
def turnX (σ : SJM) : SJM := (st2 σ.1 9 0 (σ.1 9 0 * nI 1103515245 + nI 12345), σ.2.1, σ.2.2)
def lateP (pl : Nat) (σ : SJM) : SJM := (σ.1, st3 σ.2.1 3 pl (σ.2.1 6 0), σ.2.2)
def ticS (t : Nat) (σ : SJM) : SJM := (st2 σ.1 8 0 (nI (t + 1)), σ.2.1, σ.2.2)
/-- one step, the t-th -/
def stepS (mm L t : Nat) (σ : SJM) : SJM := ticS t (keepB (lateP (t % L) (if 0 < mm then tryS mm (σ.2.1 3 (t % L)) (turnX σ) else turnX σ)))
def stepsS (mm L t : Nat) : Nat → SJM → SJM
  | 0, σ => σ
  | n + 1, σ => stepS mm L (t + n) (stepsS mm L t n σ)
theorem keepB_o (σ : SJM) (k : Nat) (h2 : k ≠ 2) (h11 : k ≠ 11) : (keepB σ).1 k = σ.1 k := by
  unfold keepB; split
  · simp [st2, va_up, h2, h11]
  · rfl
theorem tryS_o (mm : Nat) (late : Int64) (σ : SJM) (k : Nat) (h1 : k ≠ 1) (h10 : k ≠ 10) : (tryS mm late σ).1 k = σ.1 k := by
  unfold tryS; split
  · rfl
  · simp [st2, va_up, h1, h10]
theorem stepS_8 (mm L t : Nat) (σ : SJM) : (stepS mm L t σ).1 8 0 = nI (t + 1) := by
  unfold stepS ticS; simp [st2, va_up, upd]
theorem stepS_5 (mm L t : Nat) (σ : SJM) : (stepS mm L t σ).1 5 = σ.1 5 := by
  unfold stepS ticS lateP
  simp only [st2, va_up]
  rw [if_neg (by decide), keepB_o _ 5 (by decide) (by decide)]
  show (if 0 < mm then _ else _ : SJM).1 5 = _
  split
  · rw [tryS_o _ _ _ 5 (by decide) (by decide)]; rfl
  · rfl
theorem stepsS_5 (mm L t n : Nat) (σ : SJM) : (stepsS mm L t n σ).1 5 = σ.1 5 := by
  induction n with
  | zero => rfl
  | succ n ih => show (stepS mm L (t + n) (stepsS mm L t n σ)).1 5 = _; rw [stepS_5, ih]
theorem stepsS_8 (mm L t n : Nat) (σ : SJM) (h : σ.1 8 0 = nI t) : (stepsS mm L t n σ).1 8 0 = nI (t + n) := by
  cases n with
  | zero => exact h
  | succ n => exact stepS_8 mm L (t + n) _
/-- every number of the movable row is a job -/
theorem mvr_job (M : Nat → Nat → Int32) (f : Nat → Int32) (n : Nat) : ∀ i, i < mvc M n → ∃ j : Nat, j < n ∧ mvr M f n i = nI j := by
  induction n with
  | zero => intro i hi; exact absurd hi (Nat.not_lt_zero _)
  | succ n ih =>
    intro i hi
    unfold mvc at hi
    unfold mvr
    split at hi
    · rename_i h
      rw [if_pos h]
      by_cases e : i = mvc M n
      · exact ⟨n, by omega, by simp [upd, e]⟩
      · obtain ⟨j, hj, ej⟩ := ih i (by omega)
        exact ⟨j, by omega, by simp [upd, e, ej]⟩
    · rename_i h
      rw [if_neg h]
      obtain ⟨j, hj, ej⟩ := ih i hi
      exact ⟨j, by omega, ej⟩
/-- the plan as it was, behind a try that is taken back -/
theorem swap_back (p : Nat → Int32) (j k : Nat) : upd (upd (upd (upd p j (p k)) k (p j)) j (p j)) k (p k) = p := by
  funext i; unfold upd
  by_cases h1 : i = k
  · simp [h1]
  · by_cases h2 : i = j
    · subst h2; simp [h1]
    · simp [h1, h2]
theorem put_back (p : Nat → Int32) (j : Nat) (v : Int32) : upd (upd (upd p j v) j (p j)) j (p j) = p := by
  funext i; unfold upd
  by_cases h2 : i = j
  · simp [h2]
  · simp [h2]
theorem up_row (M : Nat → Nat → Int32) (k : Nat) : va_up M k (M k) = M := by
  funext i; unfold va_up; by_cases h : i = k
  · simp [h]
  · simp [h]
theorem st2_row (M : Nat → Nat → Int32) (k j : Nat) (v : Int32) (f : Nat → Int32) : st2 (va_up M k f) k j v = va_up M k (upd f j v) := by
  funext i; unfold st2 va_up; by_cases h : i = k
  · simp [h]
  · simp [h]
theorem st2_row0 (M : Nat → Nat → Int32) (k j : Nat) (v : Int32) : st2 M k j v = va_up M k (upd (M k) j v) := rfl
/-- a new solve's addresses -/
def adS (h q1 q2 q3 q4 q5 : Nat) : Nat → Nat := fun k => match k with
  | 1 => q1 | 2 => q2 | 3 => q3 | 4 => q4 | 5 => q5 | _ => h
def adM (h q1 q2 q3 : Nat) : Nat → Nat := fun k => match k with
  | 1 => q1 | 2 => q2 | 3 => q3 | _ => h
/-- a new solve's numbers -/
def newS (seed : Int32) : Nat → Nat → Int32 := fun k j => if k = 1 ∨ k = 2 then (if j < 16 then (-1) else 0) else if k = 9 then (if j = 0 then seed else 0) else 0
end
section
/-! the class's Solve and Mark -/
theorem xor_nn {a b : Nat} (ha : a < 2 ^ 31) (hb : b < 2 ^ 31) : 0 ≤ nI a ^^^ nI b := by
  have e : nI a ^^^ nI b = nI (a ^^^ b) := by
    apply Int32.toBitVec_inj.mp
    apply BitVec.eq_of_toNat_eq
    rw [show (nI a ^^^ nI b).toBitVec = (nI a).toBitVec ^^^ (nI b).toBitVec from rfl, BitVec.toNat_xor, pk_tn (by omega), pk_tn (by omega), pk_tn (Nat.lt_of_lt_of_le (Nat.xor_lt_two_pow ha hb) (by decide))]
  rw [e]
  exact nI_pos' (Nat.xor_lt_two_pow ha hb)
set_option maxHeartbeats 4000000 in
set_option maxRecDepth 100000 in
theorem c_J9_floorMod_7cf53 (l : Launch) (D : va_G) (cA : Nat → ClassId) (t L : Nat) (ht : t < 2 ^ 31) (hL : 0 < L) (hL2 : L < 2 ^ 31) : Cr l D cA yJ9_floorMod_7cf53 cJ9_floorMod_7cf53 3 (some .int) 0 ([.int (nI t), .int (nI L)] : List Value) ([]) (fun r : Option Value => r = some (.int (nI (t % L)))) := by
  refine x_metF (by decide +kernel) rfl (Nat.le_of_ble_eq_true rfl) ?_
  intro xp xe xs xm xbl xme xco F hnm
  refine x_lv [(0, .int (nI t)), (1, .int (nI L))] [0, 1] rfl ?_
  refine x_iload_n F 0 dJ9_floorMod_7cf53_0 rfl ?_
  refine x_iload_n F 1 dJ9_floorMod_7cf53_1 rfl ?_
  refine x_irem F ((nI t) - (nI t) / (nI L) * (nI L)) dJ9_floorMod_7cf53_2 (nI_ne0 hL hL2) rfl ?_
  refine x_top (nI (t % L)) (pk_rem ht hL hL2) ?_
  refine x_istore_n F [(2, .int (nI (t % L))), (0, .int (nI t)), (1, .int (nI L))] dJ9_floorMod_7cf53_3 (by decide) rfl ?_
  refine x_iload_n F 1 dJ9_floorMod_7cf53_4 rfl ?_
  refine x_iload_n F 2 dJ9_floorMod_7cf53_5 rfl ?_
  refine x_ixor F ((nI t) ^^^ (nI L)) dJ9_floorMod_7cf53_6 rfl ?_
  refine x_if_ge F 18 dJ9_floorMod_7cf53_7 (by decide) (fun h7 => ?_) (fun h7 => ?_)
  · have hm := Nat.mod_lt t hL
    refine x_iload_n F 0 dJ9_floorMod_7cf53_18 rfl ?_
    exact x_iret F () (rfl) (rfl) (by omega) (by omega) dJ9_floorMod_7cf53_19
  · exact absurd (xor_nn ht hL2) h7

set_option maxHeartbeats 4000000 in
set_option maxRecDepth 100000 in
theorem c_X3_putInBoth (l : Launch) (D : va_G) (cA : Nat → ClassId) (as_ : Nat → Nat) (L : Nat) (MS : Nat → Nat → Int32) (JS : Nat → Nat → Int64) (mk : Nat → Option Nat) (fo w : Nat) (v : Int32) (hw : w < 16) : Cg l D cA yX3_putInBoth cX3_putInBoth 3 none 0 0 0 ([.ref (as_ 100), .int (nI w), .int v] : List Value) (wS cA as_ fo L MS JS mk) (fun (r : Option Value) (u : Nat → Nat → Int32) => r = none ∧ u = st2 (st2 MS 1 w v) 2 w v) (fun u : Nat → Nat → Int32 => wS cA as_ fo L u JS mk) := by
  refine x_met (by decide +kernel) rfl (Nat.le_of_ble_eq_true rfl) ?_
  intro xp xe xs xm xbl xme xco F hnm
  refine x_lv [(0, .ref (as_ 100)), (1, .int (nI w)), (2, .int v)] [0, 1, 2] rfl ?_
  refine x_aload_n F 0 dX3_putInBoth_0 rfl ?_
  refine x_get F inUX3 0 1 rfl rfl (by decide) wfX3_22 rfl dX3_putInBoth_1 ?_
  refine x_iload_n F 1 dX3_putInBoth_4 rfl ?_
  refine x_iload_n F 2 dX3_putInBoth_5 rfl ?_
  refine x_iast F 1 (k := w) (wS cA as_ fo L (st2 MS 1 w v) JS mk) rfl (by omega) (by decide) rfl dX3_putInBoth_6 ?_
  refine x_aload_n F 0 dX3_putInBoth_7 rfl ?_
  refine x_get F inUX3 0 2 rfl rfl (by decide) wfX3_26 rfl dX3_putInBoth_8 ?_
  refine x_iload_n F 1 dX3_putInBoth_11 rfl ?_
  refine x_iload_n F 2 dX3_putInBoth_12 rfl ?_
  refine x_iast F 2 (k := w) (wS cA as_ fo L (st2 (st2 MS 1 w v) 2 w v) JS mk) rfl (by omega) (by decide) rfl dX3_putInBoth_13 ?_
  exact x_vret F (st2 (st2 MS 1 w v) 2 w v) (⟨rfl, rfl⟩) (rfl) (by omega) (by omega) dX3_putInBoth_14

set_option maxHeartbeats 4000000 in
set_option maxRecDepth 100000 in
theorem c_X3_followChange (l : Launch) (D : va_G) (cA : Nat → ClassId) (as_ : Nat → Nat) (L : Nat) (MS : Nat → Nat → Int32) (JS : Nat → Nat → Int64) (mk : Nat → Option Nat) (fo : Nat) (al : Nat → Nat) (ML : Nat → Nat → Int32) (i : Nat) (hi : i < 120) (hw : wfE ML i) : Cg l D cA yX3_followChange cX3_followChange 4 none 1 0 0 ([.ref (as_ 100), .ref (al 100), .int (nI i)] : List Value) ((wS cA as_ fo L MS JS mk) ++ (wL cA al ML)) (fun (r : Option Value) (u : Nat → Nat → Int32) => r = none ∧ u = flwS ML i MS) (fun u : Nat → Nat → Int32 => (wS cA as_ fo L u JS mk) ++ (wL cA al ML)) := by
  refine x_met (by decide +kernel) rfl (Nat.le_of_ble_eq_true rfl) ?_
  intro xp xe xs xm xbl xme xco F hnm
  refine x_lv [(0, .ref (as_ 100)), (1, .ref (al 100)), (2, .int (nI i))] [0, 1, 2] rfl ?_
  obtain ⟨k, w, hk, ew, hk8, h3, hn3, -, -, -⟩ := hw
  have hw16 : w < 16 := by
    by_cases h : k = 3
    · have := (h3 h).1; omega
    · exact hn3 h
  have ewc : (ML 1 i).toNatClampNeg = w := by rw [ew]; exact nI_clamp (by omega)
  refine x_aload_n F 1 dX3_followChange_0 rfl ?_
  refine x_get F inUX1 6 0 rfl rfl (by decide) wfX3_98 rfl dX3_followChange_1 ?_
  refine x_iload_n F 2 dX3_followChange_4 rfl ?_
  refine x_iald F 7 (k := i) rfl (by omega) (by decide) dX3_followChange_5 ?_
  refine x_top (nI k) (hk) ?_
  refine x_istore_n F [(3, .int (nI k)), (0, .ref (as_ 100)), (1, .ref (al 100)), (2, .int (nI i))] dX3_followChange_6 (by decide) rfl ?_
  refine x_iload_n F 0 dX3_followChange_7 rfl ?_
  refine x_if_eq F 16 dX3_followChange_8 (by decide) (fun h8 => ?_) (fun h8 => ?_)
  · have h8n : k = 0 := (nI_eq (by omega) (by decide)).mp (h8.trans nI_0.symm)
    refine x_aload_n F 1 dX3_followChange_16 rfl ?_
    refine x_aload_n F 2 dX3_followChange_17 rfl ?_
    refine x_get F inUX1 6 1 rfl rfl (by decide) wfX3_101 rfl dX3_followChange_18 ?_
    refine x_iload_n F 3 dX3_followChange_21 rfl ?_
    refine x_iald F 8 (k := i) rfl (by omega) (by decide) dX3_followChange_22 ?_
    refine x_top (nI w) (ew) ?_
    refine x_iconst F (-1) dX3_followChange_23 (by decide +kernel) ?_
    refine x_callV F [] (wL cA al ML) [0, 1, 2, 3, 4, 5] [6, 7, 8, 9, 10, 11] (c_X3_putInBoth l D cA as_ L MS JS mk fo w (-1) hw16) mwX3_putInBoth wmX3_104 rfl (q0 := 0) rfl rfl rfl (Nat.le_of_ble_eq_true rfl) ⟨by decide, by decide⟩ ⟨by show _ ≤ 0; omega, by show _ ≤ 0; omega⟩ rfl rfl (by decide) (by decide) (by decide) dX3_followChange_24 (fun r1 u2 hp3 => ?_)
    obtain ⟨rfl, rfl⟩ := hp3
    refine x_sub ((wS cA as_ fo L (st2 (st2 MS 1 w (-1)) 2 w (-1)) JS mk) ++ (wL cA al ML)) [6, 7, 8, 9, 10, 11, 0, 1, 2, 3, 4, 5] rfl (by decide) ?_
    refine x_goto F 52 dX3_followChange_27 (by decide) ?_
    exact x_vret F (st2 (st2 MS 1 w (-1)) 2 w (-1)) (⟨rfl, by unfold flwS; rw [ewc]; rw [if_pos (Or.inl (by rw [hk]; exact congrArg nI h8n))]⟩) (rfl) (by omega) (by omega) dX3_followChange_52
  · have h8n : ¬ k = 0 := fun z => h8 (((nI_eq (by omega) (by decide)).mpr z).trans nI_0)
    refine x_iload_n F 0 dX3_followChange_11 rfl ?_
    refine x_iconst F (nI 1) dX3_followChange_12 (by decide +kernel) ?_
    refine x_icmp_ne F 30 dX3_followChange_13 (by decide) (fun h13 => ?_) (fun h13 => ?_)
    · have h13n : ¬ k = 1 := fun z => h13 ((nI_eq (by omega) (by decide)).mpr z)
      refine x_iload_n F 0 dX3_followChange_30 rfl ?_
      refine x_bipush F (nI 6) dX3_followChange_31 (by decide +kernel) ?_
      refine x_icmp_ne F 52 dX3_followChange_33 (by decide) (fun h33 => ?_) (fun h33 => ?_)
      · have h33n : ¬ k = 6 := fun z => h33 ((nI_eq (by omega) (by decide)).mpr z)
        exact x_vret F MS (⟨rfl, by unfold flwS; rw [ewc]; rw [if_neg (by rw [hk]; exact fun z => z.elim (fun z => h8n ((nI_eq (by omega) (by decide)).mp z)) (fun z => h13n ((nI_eq (by omega) (by decide)).mp z))), if_neg (by rw [hk]; exact fun z => h33n ((nI_eq (by omega) (by decide)).mp z))]⟩) (rfl) (by omega) (by omega) dX3_followChange_52
      · have h33n : k = 6 := (nI_eq (by omega) (by decide)).mp h33
        refine x_aload_n F 1 dX3_followChange_36 rfl ?_
        refine x_aload_n F 2 dX3_followChange_37 rfl ?_
        refine x_get F inUX1 6 1 rfl rfl (by decide) wfX3_101 rfl dX3_followChange_38 ?_
        refine x_iload_n F 3 dX3_followChange_41 rfl ?_
        refine x_iald F 8 (k := i) rfl (by omega) (by decide) dX3_followChange_42 ?_
        refine x_top (nI w) (ew) ?_
        refine x_aload_n F 2 dX3_followChange_43 rfl ?_
        refine x_get F inUX1 6 2 rfl rfl (by decide) wfX3_108 rfl dX3_followChange_44 ?_
        refine x_iload_n F 3 dX3_followChange_47 rfl ?_
        refine x_iald F 9 (k := i) rfl (by omega) (by decide) dX3_followChange_48 ?_
        refine x_callV F [] (wL cA al ML) [0, 1, 2, 3, 4, 5] [6, 7, 8, 9, 10, 11] (c_X3_putInBoth l D cA as_ L MS JS mk fo w (ML 2 i) hw16) mwX3_putInBoth wmX3_104 rfl (q0 := 0) rfl rfl rfl (Nat.le_of_ble_eq_true rfl) ⟨by decide, by decide⟩ ⟨by show _ ≤ 0; omega, by show _ ≤ 0; omega⟩ rfl rfl (by decide) (by decide) (by decide) dX3_followChange_49 (fun r4 u5 hp6 => ?_)
        obtain ⟨rfl, rfl⟩ := hp6
        refine x_sub ((wS cA as_ fo L (st2 (st2 MS 1 w (ML 2 i)) 2 w (ML 2 i)) JS mk) ++ (wL cA al ML)) [6, 7, 8, 9, 10, 11, 0, 1, 2, 3, 4, 5] rfl (by decide) ?_
        exact x_vret F (st2 (st2 MS 1 w (ML 2 i)) 2 w (ML 2 i)) (⟨rfl, by unfold flwS; rw [ewc]; rw [if_neg (by rw [hk]; exact fun z => z.elim (fun z => h8n ((nI_eq (by omega) (by decide)).mp z)) (fun z => h13n ((nI_eq (by omega) (by decide)).mp z))), if_pos (by rw [hk]; exact congrArg nI h33n)]⟩) (rfl) (by omega) (by omega) dX3_followChange_52
    · have h13n : k = 1 := (nI_eq (by omega) (by decide)).mp h13
      refine x_aload_n F 1 dX3_followChange_16 rfl ?_
      refine x_aload_n F 2 dX3_followChange_17 rfl ?_
      refine x_get F inUX1 6 1 rfl rfl (by decide) wfX3_101 rfl dX3_followChange_18 ?_
      refine x_iload_n F 3 dX3_followChange_21 rfl ?_
      refine x_iald F 8 (k := i) rfl (by omega) (by decide) dX3_followChange_22 ?_
      refine x_top (nI w) (ew) ?_
      refine x_iconst F (-1) dX3_followChange_23 (by decide +kernel) ?_
      refine x_callV F [] (wL cA al ML) [0, 1, 2, 3, 4, 5] [6, 7, 8, 9, 10, 11] (c_X3_putInBoth l D cA as_ L MS JS mk fo w (-1) hw16) mwX3_putInBoth wmX3_104 rfl (q0 := 0) rfl rfl rfl (Nat.le_of_ble_eq_true rfl) ⟨by decide, by decide⟩ ⟨by show _ ≤ 0; omega, by show _ ≤ 0; omega⟩ rfl rfl (by decide) (by decide) (by decide) dX3_followChange_24 (fun r7 u8 hp9 => ?_)
      obtain ⟨rfl, rfl⟩ := hp9
      refine x_sub ((wS cA as_ fo L (st2 (st2 MS 1 w (-1)) 2 w (-1)) JS mk) ++ (wL cA al ML)) [6, 7, 8, 9, 10, 11, 0, 1, 2, 3, 4, 5] rfl (by decide) ?_
      refine x_goto F 52 dX3_followChange_27 (by decide) ?_
      exact x_vret F (st2 (st2 MS 1 w (-1)) 2 w (-1)) (⟨rfl, by unfold flwS; rw [ewc]; rw [if_pos (Or.inr (by rw [hk]; exact congrArg nI h13n))]⟩) (rfl) (by omega) (by omega) dX3_followChange_52

set_option maxHeartbeats 4000000 in
set_option maxRecDepth 100000 in
theorem c_X3_scoreAnew (l : Launch) (D : va_G) (cA : Nat → ClassId) (as_ : Nat → Nat) (L : Nat) (MS : Nat → Nat → Int32) (JS : Nat → Nat → Int64) (mk : Nat → Option Nat) (ad : Nat → Nat) (M : Nat → Nat → Int32)  : Cg l D cA yX3_scoreAnew cX3_scoreAnew 1 none 3 0 0 ([.ref (as_ 100)] : List Value) ((wS cA as_ (ad 100) L MS JS mk) ++ (wF cA ad M)) (fun (r : Option Value) (u : SJM) => r = none ∧ u = anew (MS, JS, M)) (fun u : SJM => (wS cA as_ (ad 100) L (u.1) (u.2.1) mk) ++ (wF cA ad (u.2.2))) := by
  refine x_met (by decide +kernel) rfl (Nat.le_of_ble_eq_true rfl) ?_
  intro xp xe xs xm xbl xme xco F hnm
  refine x_lv [(0, .ref (as_ 100))] [0] rfl ?_
  refine x_aload_n F 0 dX3_scoreAnew_0 rfl ?_
  refine x_aload_n F 0 dX3_scoreAnew_1 rfl ?_
  refine x_get F inUX3 0 0 rfl rfl (by decide) wfX3_12 rfl dX3_scoreAnew_2 ?_
  refine x_aload_n F 0 dX3_scoreAnew_5 rfl ?_
  refine x_get F inUX3 0 1 rfl rfl (by decide) wfX3_22 rfl dX3_scoreAnew_6 ?_
  refine x_callV F [.ref (as_ 100)] ([0, 2, 3, 4, 5].filterMap (fun i => ((wS cA as_ (ad 100) L MS JS mk) ++ (wF cA ad M))[i]?)) [6, 7, 8, 9, 10, 11, 12, 13, 14, 15, 1] [0, 2, 3, 4, 5] (c_X0_scoreOf l D cA ad M (as_ 1) (MS 1)) mwX0_scoreOf wmX3_111 rfl (q0 := 0) rfl rfl rfl (Nat.le_of_ble_eq_true rfl) ⟨by decide, by decide⟩ ⟨by show _ ≤ 0; omega, by show _ ≤ 0; omega⟩ rfl rfl (by decide) (by decide) (by decide) dX3_scoreAnew_9 (fun r1 u2 hp3 => ?_)
  obtain ⟨rfl, eu2⟩ := hp3
  refine x_sub ((wS cA as_ (ad 100) L MS JS mk) ++ (wF cA ad u2)) [0, 15, 1, 2, 3, 4, 5, 6, 7, 8, 9, 10, 11, 12, 13, 14] rfl (by decide) ?_
  obtain ⟨vu2, evu2⟩ : ∃ z, z = scL M (MS 1) := ⟨_, rfl⟩
  rw [← evu2]
  refine x_put F inUX3 tyX3_ok nmX3 0 6 ((wS cA as_ (ad 100) L MS (st3 JS 6 0 vu2) mk) ++ (wF cA ad u2)) rfl rfl (by decide) wfX3_38 rfl rfl rfl rfl (Nat.le_of_ble_eq_true rfl) rfl dX3_scoreAnew_12 ?_
  refine x_aload_n F 0 dX3_scoreAnew_15 rfl ?_
  refine x_aload_n F 0 dX3_scoreAnew_16 rfl ?_
  refine x_get F inUX3 0 0 rfl rfl (by decide) wfX3_12 rfl dX3_scoreAnew_17 ?_
  refine x_aload_n F 0 dX3_scoreAnew_20 rfl ?_
  refine x_get F inUX3 0 2 rfl rfl (by decide) wfX3_26 rfl dX3_scoreAnew_21 ?_
  refine x_callV F [.ref (as_ 100)] ([0, 1, 3, 4, 5].filterMap (fun i => ((wS cA as_ (ad 100) L MS (st3 JS 6 0 vu2) mk) ++ (wF cA ad u2))[i]?)) [6, 7, 8, 9, 10, 11, 12, 13, 14, 15, 2] [0, 1, 3, 4, 5] (c_X0_scoreOf l D cA ad u2 (as_ 2) (MS 2)) mwX0_scoreOf wmX3_111 rfl (q0 := 0) rfl rfl rfl (Nat.le_of_ble_eq_true rfl) ⟨by decide, by decide⟩ ⟨by show _ ≤ 0; omega, by show _ ≤ 0; omega⟩ rfl rfl (by decide) (by decide) (by decide) dX3_scoreAnew_24 (fun r4 u5 hp6 => ?_)
  obtain ⟨rfl, eu5⟩ := hp6
  refine x_sub ((wS cA as_ (ad 100) L MS (st3 JS 6 0 vu2) mk) ++ (wF cA ad u5)) [0, 1, 15, 2, 3, 4, 5, 6, 7, 8, 9, 10, 11, 12, 13, 14] rfl (by decide) ?_
  obtain ⟨vu5, evu5⟩ : ∃ z, z = scL u2 (MS 2) := ⟨_, rfl⟩
  rw [← evu5]
  refine x_put F inUX3 tyX3_ok nmX3 0 7 ((wS cA as_ (ad 100) L MS (st3 (st3 JS 6 0 vu2) 7 0 vu5) mk) ++ (wF cA ad u5)) rfl rfl (by decide) wfX3_42 rfl rfl rfl rfl (Nat.le_of_ble_eq_true rfl) rfl dX3_scoreAnew_27 ?_
  exact x_vret F (MS, (st3 (st3 JS 6 0 vu2) 7 0 vu5), u5) (⟨rfl, by rw [evu5, eu5, evu2, eu2]; rfl⟩) (rfl) (by omega) (by omega) dX3_scoreAnew_30

set_option maxHeartbeats 4000000 in
set_option maxRecDepth 100000 in
theorem c_X3_keepIfBest (l : Launch) (D : va_G) (cA : Nat → ClassId) (as_ : Nat → Nat) (L : Nat) (MS : Nat → Nat → Int32) (JS : Nat → Nat → Int64) (mk : Nat → Option Nat) (ad : Nat → Nat) (M : Nat → Nat → Int32)  : Cg l D cA yX3_keepIfBest cX3_keepIfBest 1 none 1 0 0 ([.ref (as_ 100)] : List Value) ((wS cA as_ (ad 100) L MS JS mk) ++ (wF cA ad M)) (fun (r : Option Value) (u : SJM) => r = none ∧ u = keepB (MS, JS, M)) (fun u : SJM => (wS cA as_ (ad 100) L (u.1) (u.2.1) mk) ++ (wF cA ad (u.2.2))) := by
  refine x_met (by decide +kernel) rfl (Nat.le_of_ble_eq_true rfl) ?_
  intro xp xe xs xm xbl xme xco F hnm
  refine x_lv [(0, .ref (as_ 100))] [0] rfl ?_
  refine x_aload_n F 0 dX3_keepIfBest_0 rfl ?_
  refine x_get F inUX3 0 6 rfl rfl (by decide) wfX3_38 rfl dX3_keepIfBest_1 ?_
  refine x_aload_n F 0 dX3_keepIfBest_4 rfl ?_
  refine x_get F inUX3 0 7 rfl rfl (by decide) wfX3_42 rfl dX3_keepIfBest_5 ?_
  refine x_lcmp F (lg_cmp (JS 6 0) (JS 7 0)) dX3_keepIfBest_8 rfl ?_
  refine x_if_ge F 45 dX3_keepIfBest_9 (by decide) (fun h9 => ?_) (fun h9 => ?_)
  · have e9 : keepB (MS, JS, M) = (MS, JS, M) := by unfold keepB; rw [if_neg (Int64.not_lt.mpr ((lg_cmp_ge _ _).mp h9))]
    exact x_vret F (MS, JS, M) (⟨rfl, e9.symm⟩) (rfl) (by omega) (by omega) dX3_keepIfBest_45
  · have e9 : keepB (MS, JS, M) = (st2 (va_up MS 2 (va_cpy (MS 1) (MS 2) 0 0 16)) 11 0 (MS 11 0 + nI 1), st3 JS 7 0 (JS 6 0), M) := by unfold keepB; rw [if_pos (Int64.not_le.mp (fun z => h9 ((lg_cmp_ge _ _).mpr z)))]
    refine x_aload_n F 0 dX3_keepIfBest_12 rfl ?_
    refine x_get F inUX3 0 1 rfl rfl (by decide) wfX3_22 rfl dX3_keepIfBest_13 ?_
    refine x_iconst F (nI 0) dX3_keepIfBest_16 (by decide +kernel) ?_
    refine x_aload_n F 0 dX3_keepIfBest_17 rfl ?_
    refine x_get F inUX3 0 2 rfl rfl (by decide) wfX3_26 rfl dX3_keepIfBest_18 ?_
    refine x_iconst F (nI 0) dX3_keepIfBest_21 (by decide +kernel) ?_
    refine x_bipush F (nI 16) dX3_keepIfBest_22 (by decide +kernel) ?_
    refine x_copyI F 1 2 (k := 16) ((wS cA as_ (ad 100) L (va_up MS 2 (va_cpy (MS 1) (MS 2) 0 0 16)) JS mk) ++ (wF cA ad M)) rfl rfl (by omega) (by omega) (by omega) rfl wmX3_115 (by decide) (by first | decide +kernel | exact Nat.le_of_ble_eq_true rfl) dX3_keepIfBest_24 ?_
    refine x_aload_n F 0 dX3_keepIfBest_27 rfl ?_
    refine x_aload_n F 0 dX3_keepIfBest_28 rfl ?_
    refine x_get F inUX3 0 6 rfl rfl (by decide) wfX3_38 rfl dX3_keepIfBest_29 ?_
    refine x_put F inUX3 tyX3_ok nmX3 0 7 ((wS cA as_ (ad 100) L (va_up MS 2 (va_cpy (MS 1) (MS 2) 0 0 16)) (st3 JS 7 0 (JS 6 0)) mk) ++ (wF cA ad M)) rfl rfl (by decide) wfX3_42 rfl rfl rfl rfl (Nat.le_of_ble_eq_true rfl) rfl dX3_keepIfBest_32 ?_
    refine x_aload_n F 0 dX3_keepIfBest_35 rfl ?_
    refine x_dup F dX3_keepIfBest_36 rfl ?_
    refine x_get F inUX3 0 11 rfl rfl (by decide) wfX3_52 rfl dX3_keepIfBest_37 ?_
    refine x_iconst F (nI 1) dX3_keepIfBest_40 (by decide +kernel) ?_
    refine x_iadd F (((va_up MS 2 (va_cpy (MS 1) (MS 2) 0 0 16)) 11 0) + (nI 1)) dX3_keepIfBest_41 rfl ?_
    refine x_put F inUX3 tyX3_ok nmX3 0 11 ((wS cA as_ (ad 100) L (st2 (va_up MS 2 (va_cpy (MS 1) (MS 2) 0 0 16)) 11 0 (((va_up MS 2 (va_cpy (MS 1) (MS 2) 0 0 16)) 11 0) + (nI 1))) (st3 JS 7 0 (JS 6 0)) mk) ++ (wF cA ad M)) rfl rfl (by decide) wfX3_52 rfl rfl rfl rfl (Nat.le_of_ble_eq_true rfl) rfl dX3_keepIfBest_42 ?_
    exact x_vret F ((st2 (va_up MS 2 (va_cpy (MS 1) (MS 2) 0 0 16)) 11 0 (((va_up MS 2 (va_cpy (MS 1) (MS 2) 0 0 16)) 11 0) + (nI 1))), (st3 JS 7 0 (JS 6 0)), M) (⟨rfl, e9.symm⟩) (rfl) (by omega) (by omega) dX3_keepIfBest_45

set_option maxHeartbeats 4000000 in
set_option maxRecDepth 100000 in
theorem c_X3_catchUp (l : Launch) (D : va_G) (cA : Nat → ClassId) (as_ : Nat → Nat) (L : Nat) (MS : Nat → Nat → Int32) (JS : Nat → Nat → Int64) (mk : Nat → Option Nat) (ad : Nat → Nat) (M : Nat → Nat → Int32) (al : Nat → Nat) (ML : Nat → Nat → Int32) (n k cnt : Nat) (hc : ML 5 0 = nI cnt) (hcn : cnt ≤ 120) (hnc : n ≤ cnt) (hk : M 0 0 = nI k) (hkc : k ≤ cnt) (hwf : ∀ i, i < cnt → wfE ML i) (hL : L < 2 ^ 31) : Cg l D cA yX3_catchUp cX3_catchUp 6 (some .int) 4 0 0 ([.ref (as_ 100), .ref (al 100), .int (nI n)] : List Value) ((wS cA as_ (ad 100) L MS JS mk) ++ (wF cA ad M) ++ (wL cA al ML)) (fun (r : Option Value) (u : SJM) => r = some (.int (nI (n - k))) ∧ u = if n ≤ k then (MS, JS, M) else catchS ML k n L (MS, JS, M)) (fun u : SJM => (wS cA as_ (ad 100) L (u.1) (u.2.1) mk) ++ (wF cA ad (u.2.2)) ++ (wL cA al ML)) := by
  refine x_met (by decide +kernel) rfl (Nat.le_of_ble_eq_true rfl) ?_
  intro xp xe xs xm xbl xme xco F hnm
  refine x_lv [(0, .ref (as_ 100)), (1, .ref (al 100)), (2, .int (nI n))] [0, 1, 2] rfl ?_
  refine x_aload_n F 0 dX3_catchUp_0 rfl ?_
  refine x_get F inUX3 0 0 rfl rfl (by decide) wfX3_12 rfl dX3_catchUp_1 ?_
  refine x_get F inUX0 6 0 rfl rfl (by decide) wfX3_68 rfl dX3_catchUp_4 ?_
  refine x_top (nI k) (hk) ?_
  refine x_istore_n F [(3, .int (nI k)), (0, .ref (as_ 100)), (1, .ref (al 100)), (2, .int (nI n))] dX3_catchUp_7 (by decide) rfl ?_
  refine x_iload_n F 3 dX3_catchUp_8 rfl ?_
  refine x_aload_n F 2 dX3_catchUp_9 rfl ?_
  refine x_get F inUX1 16 5 rfl rfl (by decide) wfX3_71 rfl dX3_catchUp_10 ?_
  refine x_top (nI cnt) (hc) ?_
  refine x_mmin F (if (nI cnt) < (nI n) then (nI cnt) else (nI n)) wmX3_76 (by decide) (Nat.le_of_ble_eq_true rfl) (by show _ ≤ 0; omega) (by show _ ≤ 0; omega) rfl dX3_catchUp_13 ?_
  refine x_top (nI n) (if_neg (nI_nlt hnc (by omega))) ?_
  refine x_istore F [(4, .int (nI n)), (3, .int (nI k)), (0, .ref (as_ 100)), (1, .ref (al 100)), (2, .int (nI n))] dX3_catchUp_16 (by decide) rfl ?_
  refine x_iload F 0 dX3_catchUp_18 rfl ?_
  refine x_iload_n F 1 dX3_catchUp_20 rfl ?_
  refine x_icmp_gt F 26 dX3_catchUp_21 (by decide) (fun h21 => ?_) (fun h21 => ?_)
  · have h21n : k < n := (nI_ltI (by omega) (by omega)).mp h21
    have hnk : ¬ n ≤ k := by omega
    refine x_aload_n F 2 dX3_catchUp_26 rfl ?_
    refine x_get F inUX3 0 0 rfl rfl (by decide) wfX3_12 rfl dX3_catchUp_27 ?_
    refine x_aload_n F 3 dX3_catchUp_30 rfl ?_
    refine x_iload F 0 dX3_catchUp_31 rfl ?_
    refine x_callV F [] (wS cA as_ (ad 100) L MS JS mk) [6, 7, 8, 9, 10, 11, 12, 13, 14, 15, 16, 17, 18, 19, 20, 21] [0, 1, 2, 3, 4, 5] (c_X0_become l D cA ad M al ML n k cnt hc hcn hnc hk hkc hwf) mwX0_become wmX3_79 rfl (q0 := 0) rfl rfl rfl (Nat.le_of_ble_eq_true rfl) ⟨by decide, by decide⟩ ⟨by show _ ≤ 0; omega, by show _ ≤ 0; omega⟩ rfl rfl (by decide) (by decide) (by decide) dX3_catchUp_33 (fun r1 u2 hp3 => ?_)
    obtain ⟨rfl, rfl⟩ := hp3
    refine x_iload_n F 1 dX3_catchUp_36 rfl ?_
    refine x_istore F [(5, .int (nI k)), (4, .int (nI n)), (3, .int (nI k)), (0, .ref (as_ 100)), (1, .ref (al 100)), (2, .int (nI n))] dX3_catchUp_37 (by decide) rfl ?_
    refine x_lv [(0, .ref (as_ 100)), (1, .ref (al 100)), (2, .int (nI n)), (3, .int (nI k)), (4, .int (nI n)), (5, .int (nI k))] [3, 4, 5, 2, 1, 0] rfl ?_
    refine x_lv [(0, .ref (as_ 100)), (1, .ref (al 100)), (2, .int (nI n)), (3, .int (nI k)), (4, .int (nI n)), (5, .int (nI (k + 0)))] [0, 1, 2, 3, 4, 5] (by rw [Nat.add_zero]; rfl) ?_
    have loop39 : ∀ (nn39 : Nat) (c : Nat) (A : Nat → Nat → Int32), (k + c ≤ n) → (A = itS ML k c MS) → (n - (k + c) < nn39) → Wx xp l xe (rmL 4 0 0) xs xm ([.ref (as_ 100), .ref (al 100), .int (nI n)] : List Value).toArray xbl xme xco 0 0 (xQ xbl D ((wS cA as_ (ad 100) L MS JS mk) ++ (wF cA ad M) ++ (wL cA al ML)) xs ([.ref (as_ 100), .ref (al 100), .int (nI n)] : List Value).toArray 0 0 (fun (r : Option Value) (u : SJM) => r = some (.int (nI (n - k))) ∧ u = if n ≤ k then (MS, JS, M) else catchS ML k n L (MS, JS, M)) (fun u : SJM => (wS cA as_ (ad 100) L (u.1) (u.2.1) mk) ++ (wF cA ad (u.2.2)) ++ (wL cA al ML))) 6 D (va_A ((wS cA as_ (ad 100) L MS JS mk) ++ (wF cA ad M) ++ (wL cA al ML)) xs.heap.size) 39 [(0, .ref (as_ 100)), (1, .ref (al 100)), (2, .int (nI n)), (3, .int (nI k)), (4, .int (nI n)), (5, .int (nI (k + c)))] [] ((wS cA as_ (ad 100) L A JS mk) ++ (wF cA ad (becF ML k n M)) ++ (wL cA al ML)) := by
      intro nn39
      induction nn39 with
      | zero =>
        intro c A hcc eA hm39
        exact absurd hm39 (Nat.not_lt_zero _)
      | succ nn39 ih39 =>
        intro c A hcc eA hm39
        refine x_iload F 5 dX3_catchUp_39 rfl ?_
        refine x_iload F 4 dX3_catchUp_41 rfl ?_
        refine x_icmp_ge F 59 dX3_catchUp_43 (by decide) (fun h43 => ?_) (fun h43 => ?_)
        · have h43n : n ≤ (k + c) := (nI_leI (by omega) (by omega)).mp h43
          obtain rfl : n - k = c := by omega
          refine x_aload_n F 0 dX3_catchUp_59 rfl ?_
          refine x_callV F [] (wL cA al ML) [0, 1, 2, 3, 4, 5, 6, 7, 8, 9, 10, 11, 12, 13, 14, 15] [16, 17, 18, 19, 20, 21] (c_X3_scoreAnew l D cA as_ L A JS mk ad (becF ML k n M)) mwX3_scoreAnew wmX3_86 rfl (q0 := 0) rfl rfl rfl (Nat.le_of_ble_eq_true rfl) ⟨by decide, by decide⟩ ⟨by show _ ≤ 0; omega, by show _ ≤ 0; omega⟩ rfl rfl (by decide) (by decide) (by decide) dX3_catchUp_60 (fun r4 u5 hp6 => ?_)
          obtain ⟨rfl, rfl⟩ := hp6
          refine x_sub ((wS cA as_ (ad 100) L ((anew (A, JS, (becF ML k n M))).1) ((anew (A, JS, (becF ML k n M))).2.1) mk) ++ (wF cA ad ((anew (A, JS, (becF ML k n M))).2.2)) ++ (wL cA al ML)) [6, 7, 8, 9, 10, 11, 12, 13, 14, 15, 16, 17, 18, 19, 20, 21, 0, 1, 2, 3, 4, 5] rfl (by decide) ?_
          obtain ⟨sg7, esg7⟩ : ∃ z, z = anew (A, JS, (becF ML k n M)) := ⟨_, rfl⟩
          rw [← esg7]
          refine x_aload_n F 0 dX3_catchUp_63 rfl ?_
          refine x_callV F [] (wL cA al ML) [0, 1, 2, 3, 4, 5, 6, 7, 8, 9, 10, 11, 12, 13, 14, 15] [16, 17, 18, 19, 20, 21] (c_X3_keepIfBest l D cA as_ L (sg7.1) (sg7.2.1) mk ad (sg7.2.2)) mwX3_keepIfBest wmX3_89 rfl (q0 := 0) rfl rfl rfl (Nat.le_of_ble_eq_true rfl) ⟨by decide, by decide⟩ ⟨by show _ ≤ 0; omega, by show _ ≤ 0; omega⟩ rfl rfl (by decide) (by decide) (by decide) dX3_catchUp_64 (fun r8 u9 hp10 => ?_)
          obtain ⟨rfl, rfl⟩ := hp10
          refine x_sub ((wS cA as_ (ad 100) L ((keepB ((sg7.1), (sg7.2.1), (sg7.2.2))).1) ((keepB ((sg7.1), (sg7.2.1), (sg7.2.2))).2.1) mk) ++ (wF cA ad ((keepB ((sg7.1), (sg7.2.1), (sg7.2.2))).2.2)) ++ (wL cA al ML)) [6, 7, 8, 9, 10, 11, 12, 13, 14, 15, 16, 17, 18, 19, 20, 21, 0, 1, 2, 3, 4, 5] rfl (by decide) ?_
          obtain ⟨sg11, esg11⟩ : ∃ z, z = keepB ((sg7.1), (sg7.2.1), (sg7.2.2)) := ⟨_, rfl⟩
          rw [← esg11]
          refine x_aload_n F 0 dX3_catchUp_67 rfl ?_
          refine x_get F inUX3 0 3 rfl rfl (by decide) wfX3_58 rfl dX3_catchUp_68 ?_
          refine x_aload_n F 0 dX3_catchUp_71 rfl ?_
          refine x_get F inUX3 0 6 rfl rfl (by decide) wfX3_38 rfl dX3_catchUp_72 ?_
          refine x_callS F [] ([0, 1, 2, 4, 5, 6, 7, 8, 9, 10, 11, 12, 13, 14, 15, 16, 17, 18, 19, 20, 21].filterMap (fun i => ((wS cA as_ (ad 100) L (sg11.1) (sg11.2.1) mk) ++ (wF cA ad (sg11.2.2)) ++ (wL cA al ML))[i]?)) [3] [0, 1, 2, 4, 5, 6, 7, 8, 9, 10, 11, 12, 13, 14, 15, 16, 17, 18, 19, 20, 21] (c_J7_fill_d0a16 l D cA (as_ 3) L ((sg11.2.1) 3) ((sg11.2.1) 6 0) hL) mwJ7_fill_d0a16 wmX3_92 rfl rfl (Nat.le_of_ble_eq_true rfl) ⟨by decide, by decide⟩ ⟨by show _ ≤ 0; omega, by show _ ≤ 0; omega⟩ rfl rfl (by decide) (by decide) (by decide) dX3_catchUp_75 (fun r12 u13 hp14 => ?_)
          subst hp14
          refine x_sub ((wS cA as_ (ad 100) L (sg11.1) (va_up (sg11.2.1) 3 (fl ((sg11.2.1) 3) L ((sg11.2.1) 6 0))) mk) ++ (wF cA ad (sg11.2.2)) ++ (wL cA al ML)) [0, 1, 2, 21, 3, 4, 5, 6, 7, 8, 9, 10, 11, 12, 13, 14, 15, 16, 17, 18, 19, 20] rfl (by decide) ?_
          refine x_iload F 4 dX3_catchUp_78 rfl ?_
          refine x_iload_n F 3 dX3_catchUp_80 rfl ?_
          refine x_isub F ((nI n) - (nI k)) dX3_catchUp_81 rfl ?_
          refine x_top (nI (n - k)) (pk_sub (by omega)) ?_
          exact x_iret F ((sg11.1), (va_up (sg11.2.1) 3 (fl ((sg11.2.1) 3) L ((sg11.2.1) 6 0))), (sg11.2.2)) (⟨rfl, by rw [if_neg hnk, esg11, esg7, eA]; rfl⟩) (rfl) (by omega) (by omega) dX3_catchUp_82
        · have h43n : ¬ n ≤ (k + c) := fun z => h43 ((nI_leI (by omega) (by omega)).mpr z)
          refine x_aload_n F 0 dX3_catchUp_46 rfl ?_
          refine x_aload_n F 1 dX3_catchUp_47 rfl ?_
          refine x_iload F 5 dX3_catchUp_48 rfl ?_
          refine x_callV F [] (wF cA ad (becF ML k n M)) [0, 1, 2, 3, 4, 5, 16, 17, 18, 19, 20, 21] [6, 7, 8, 9, 10, 11, 12, 13, 14, 15] (c_X3_followChange l D cA as_ L A JS mk (ad 100) al ML (k + c) (by omega) (hwf _ (by omega))) mwX3_followChange wmX3_83 rfl (q0 := 0) rfl rfl rfl (Nat.le_of_ble_eq_true rfl) ⟨by decide, by decide⟩ ⟨by show _ ≤ 0; omega, by show _ ≤ 0; omega⟩ rfl rfl (by decide) (by decide) (by decide) dX3_catchUp_50 (fun r15 u16 hp17 => ?_)
          obtain ⟨rfl, rfl⟩ := hp17
          refine x_sub ((wS cA as_ (ad 100) L (flwS ML (k + c) A) JS mk) ++ (wF cA ad (becF ML k n M)) ++ (wL cA al ML)) [10, 11, 12, 13, 14, 15, 0, 1, 2, 3, 4, 5, 6, 7, 8, 9, 16, 17, 18, 19, 20, 21] rfl (by decide) ?_
          refine x_iinc F (nI (k + c + 1)) 5 [(5, .int (nI (k + c + 1))), (0, .ref (as_ 100)), (1, .ref (al 100)), (2, .int (nI n)), (3, .int (nI k)), (4, .int (nI n))] dX3_catchUp_53 rfl ((nI_add (k + c) 1)) (by decide) rfl ?_
          refine x_goto F 39 dX3_catchUp_56 (by decide) ?_
          refine x_lv [(0, .ref (as_ 100)), (1, .ref (al 100)), (2, .int (nI n)), (3, .int (nI k)), (4, .int (nI n)), (5, .int (nI (k + c + 1)))] [1, 2, 3, 4, 5, 0] rfl ?_
          exact ih39 (c + 1) (flwS ML (k + c) A) (by omega) (by rw [eA]; rfl) (by omega)
    exact loop39 _ 0 MS (by omega) rfl (Nat.lt_succ_self _)
  · have h21n : ¬ k < n := fun z => h21 ((nI_ltI (by omega) (by omega)).mpr z)
    have hnk : n ≤ k := by omega
    refine x_iconst F (nI 0) dX3_catchUp_24 (by decide +kernel) ?_
    exact x_iret F (MS, JS, M) (⟨by rw [show n - k = 0 by omega], by rw [if_pos hnk]⟩) (rfl) (by omega) (by omega) dX3_catchUp_25

set_option maxHeartbeats 4000000 in
set_option maxRecDepth 100000 in
theorem c_X3_latePlace (l : Launch) (D : va_G) (cA : Nat → ClassId) (as_ : Nat → Nat) (L : Nat) (MS : Nat → Nat → Int32) (JS : Nat → Nat → Int64) (mk : Nat → Option Nat) (fo t : Nat) (ht : MS 8 0 = nI t) (ht2 : t < 2 ^ 31) (hL : 0 < L) (hL2 : L < 2 ^ 31) : Cr l D cA yX3_latePlace cX3_latePlace 1 (some .int) 1 ([.ref (as_ 100)] : List Value) (wS cA as_ fo L MS JS mk) (fun r : Option Value => r = some (.int (nI (t % L)))) := by
  refine x_met (by decide +kernel) rfl (Nat.le_of_ble_eq_true rfl) ?_
  intro xp xe xs xm xbl xme xco F hnm
  refine x_lv [(0, .ref (as_ 100))] [0] rfl ?_
  refine x_aload_n F 0 dX3_latePlace_0 rfl ?_
  refine x_get F inUX3 0 8 rfl rfl (by decide) wfX3_45 rfl dX3_latePlace_1 ?_
  refine x_top (nI t) (ht) ?_
  refine x_aload_n F 0 dX3_latePlace_4 rfl ?_
  refine x_get F inUX3 0 3 rfl rfl (by decide) wfX3_58 rfl dX3_latePlace_5 ?_
  refine x_alen F 3 1 rfl rfl (nI L) rfl dX3_latePlace_8 ?_
  refine x_callSr F [] [] (c_J9_floorMod_7cf53 l D cA t L (by omega) (by omega) (by omega)) mwJ9_floorMod_7cf53 wmX3_62 rfl rfl (Nat.le_of_ble_eq_true rfl) ⟨by decide, by decide⟩ ⟨by show _ ≤ 0; omega, by show _ ≤ 0; omega⟩ rfl (by decide) dX3_latePlace_9 (fun r1 hp2 => ?_)
  subst hp2
  exact x_iret F () (rfl) (rfl) (by omega) (by omega) dX3_latePlace_12

set_option maxHeartbeats 4000000 in
set_option maxRecDepth 100000 in
theorem c_X3_rooms0 (l : Launch) (D : va_G) (cA : Nat → ClassId) (as_ : Nat → Nat) (L : Nat) (MS : Nat → Nat → Int32) (JS : Nat → Nat → Int64) (mk : Nat → Option Nat) (fo : Nat) (b : Int32) (hb : b = 0) : Cr l D cA yX3_rooms cX3_rooms 2 (some (.array .int)) 0 ([.ref (as_ 100), .int b] : List Value) (wS cA as_ fo L MS JS mk) (fun r : Option Value => r = some (.ref (as_ 1))) := by
  refine x_met (by decide +kernel) rfl (Nat.le_of_ble_eq_true rfl) ?_
  intro xp xe xs xm xbl xme xco F hnm
  refine x_lv [(0, .ref (as_ 100)), (1, .int b)] [0, 1] rfl ?_
  refine x_iload_n F 1 dX3_rooms_0 rfl ?_
  refine x_if_eq F 11 dX3_rooms_1 (by decide) (fun h1 => ?_) (fun h1 => ?_)
  · refine x_aload_n F 0 dX3_rooms_11 rfl ?_
    refine x_get F inUX3 0 1 rfl rfl (by decide) wfX3_22 rfl dX3_rooms_12 ?_
    exact x_aret F (Or.inr ⟨_, rfl⟩) (Or.inr ⟨_, rfl⟩) () (rfl) (rfl) (by omega) (by omega) dX3_rooms_15
  · exact absurd hb h1

set_option maxHeartbeats 4000000 in
set_option maxRecDepth 100000 in
theorem c_X3_rooms1 (l : Launch) (D : va_G) (cA : Nat → ClassId) (as_ : Nat → Nat) (L : Nat) (MS : Nat → Nat → Int32) (JS : Nat → Nat → Int64) (mk : Nat → Option Nat) (fo : Nat) (b : Int32) (hb : ¬ b = 0) : Cr l D cA yX3_rooms cX3_rooms 2 (some (.array .int)) 0 ([.ref (as_ 100), .int b] : List Value) (wS cA as_ fo L MS JS mk) (fun r : Option Value => r = some (.ref (as_ 2))) := by
  refine x_met (by decide +kernel) rfl (Nat.le_of_ble_eq_true rfl) ?_
  intro xp xe xs xm xbl xme xco F hnm
  refine x_lv [(0, .ref (as_ 100)), (1, .int b)] [0, 1] rfl ?_
  refine x_iload_n F 1 dX3_rooms_0 rfl ?_
  refine x_if_eq F 11 dX3_rooms_1 (by decide) (fun h1 => ?_) (fun h1 => ?_)
  · exact absurd h1 hb
  · refine x_aload_n F 0 dX3_rooms_4 rfl ?_
    refine x_get F inUX3 0 2 rfl rfl (by decide) wfX3_26 rfl dX3_rooms_5 ?_
    refine x_goto F 15 dX3_rooms_8 (by decide) ?_
    exact x_aret F (Or.inr ⟨_, rfl⟩) (Or.inr ⟨_, rfl⟩) () (rfl) (rfl) (by omega) (by omega) dX3_rooms_15
end
section
/-! the class's Solve: steps, marks, going back, likeness, the constructors -/
set_option maxHeartbeats 4000000 in
set_option maxRecDepth 100000 in
theorem c_X3_tryPlan (l : Launch) (D : va_G) (cA : Nat → ClassId) (as_ : Nat → Nat) (L : Nat) (MS : Nat → Nat → Int32) (JS : Nat → Nat → Int64) (mk : Nat → Option Nat) (ad : Nat → Nat) (M : Nat → Nat → Int32) (mm : Nat) (lt : Int64) (hmm : 0 < mm) (hm16 : mm ≤ 16) (hmv : ∀ i, i < mm → ∃ j : Nat, j < 16 ∧ MS 5 i = nI j) : Cg l D cA yX3_tryPlan cX3_tryPlan 11 none 3 0 0 ([.ref (as_ 100), .int (nI mm), .long lt] : List Value) ((wS cA as_ (ad 100) L MS JS mk) ++ (wF cA ad M)) (fun (r : Option Value) (u : SJM) => r = none ∧ u = tryS mm lt (MS, JS, M)) (fun u : SJM => (wS cA as_ (ad 100) L (u.1) (u.2.1) mk) ++ (wF cA ad (u.2.2))) := by
  refine x_met (by decide +kernel) rfl (Nat.le_of_ble_eq_true rfl) ?_
  intro xp xe xs xm xbl xme xco F hnm
  refine x_lv [(0, .ref (as_ 100)), (1, .int (nI mm)), (2, .long lt)] [0, 1, 2] rfl ?_
  obtain ⟨j, hj16, ej⟩ := hmv (unat (MS 9 0) 16 % mm) (Nat.mod_lt _ hmm)
  obtain ⟨k, hk16, ek⟩ := hmv (unat (MS 9 0) 20 % mm) (Nat.mod_lt _ hmm)
  have ejx : jIx MS mm 16 = j := by unfold jIx; rw [ej]; exact nI_clamp (by omega)
  have ekx : jIx MS mm 20 = k := by unfold jIx; rw [ek]; exact nI_clamp (by omega)
  refine x_aload_n F 0 dX3_tryPlan_0 rfl ?_
  refine x_get F inUX3 0 9 rfl rfl (by decide) wfX3_55 rfl dX3_tryPlan_1 ?_
  refine x_bipush F (nI 8) dX3_tryPlan_4 (by decide +kernel) ?_
  refine x_iushr F (((MS 9 0).toUInt32 >>> ((nI 8).toUInt32 &&& Int32.toUInt32 31)).toInt32) dX3_tryPlan_6 rfl ?_
  refine x_top (nI (unat (MS 9 0) 8)) (ush_eq _ 8 (by decide +kernel)) ?_
  refine x_iconst F (nI 4) dX3_tryPlan_7 (by decide +kernel) ?_
  refine x_irem F ((nI (unat (MS 9 0) 8)) - (nI (unat (MS 9 0) 8)) / (nI 4) * (nI 4)) dX3_tryPlan_8 (by decide) rfl ?_
  refine x_top (nI (unat (MS 9 0) 8 % 4)) (pk_rem (unat_lt _ (by decide)) (by decide) (by decide)) ?_
  refine x_iconst F (nI 3) dX3_tryPlan_9 (by decide +kernel) ?_
  refine x_icmp_ne F 17 dX3_tryPlan_10 (by decide) (fun h10 => ?_) (fun h10 => ?_)
  · have h10n : ¬ (unat (MS 9 0) 8 % 4) = 3 := fun z => h10 ((nI_eq (by omega) (by decide)).mpr z)
    refine x_iconst F (nI 0) dX3_tryPlan_17 (by decide +kernel) ?_
    refine x_istore F [(4, .int (nI 0)), (0, .ref (as_ 100)), (1, .int (nI mm)), (2, .long lt)] dX3_tryPlan_18 (by decide) rfl ?_
    refine x_aload_n F 1 dX3_tryPlan_20 rfl ?_
    refine x_get F inUX3 0 5 rfl rfl (by decide) wfX3_35 rfl dX3_tryPlan_21 ?_
    refine x_aload_n F 1 dX3_tryPlan_24 rfl ?_
    refine x_get F inUX3 0 9 rfl rfl (by decide) wfX3_55 rfl dX3_tryPlan_25 ?_
    refine x_bipush F (nI 16) dX3_tryPlan_28 (by decide +kernel) ?_
    refine x_iushr F (((MS 9 0).toUInt32 >>> ((nI 16).toUInt32 &&& Int32.toUInt32 31)).toInt32) dX3_tryPlan_30 rfl ?_
    refine x_top (nI (unat (MS 9 0) 16)) (ush_eq _ 16 (by decide +kernel)) ?_
    refine x_iload_n F 2 dX3_tryPlan_31 rfl ?_
    refine x_irem F ((nI (unat (MS 9 0) 16)) - (nI (unat (MS 9 0) 16)) / (nI mm) * (nI mm)) dX3_tryPlan_32 (nI_ne0 hmm (by omega)) rfl ?_
    refine x_top (nI (unat (MS 9 0) 16 % mm)) (pk_rem (unat_lt _ (by decide)) hmm (by omega)) ?_
    refine x_iald F 5 (k := unat (MS 9 0) 16 % mm) rfl (Nat.lt_of_lt_of_le (Nat.mod_lt _ hmm) hm16) (by decide) dX3_tryPlan_33 ?_
    refine x_top (nI j) (ej) ?_
    refine x_istore F [(5, .int (nI j)), (4, .int (nI 0)), (0, .ref (as_ 100)), (1, .int (nI mm)), (2, .long lt)] dX3_tryPlan_34 (by decide) rfl ?_
    refine x_iload F 1 dX3_tryPlan_36 rfl ?_
    refine x_if_eq F 58 dX3_tryPlan_38 (by decide) (fun h38 => ?_) (fun h38 => ?_)
    · have h38n : 0 = 0 := (nI_eq (by decide) (by decide)).mp (h38.trans nI_0.symm)
      refine x_iload F 0 dX3_tryPlan_58 rfl ?_
      refine x_istore F [(6, .int (nI j)), (5, .int (nI j)), (4, .int (nI 0)), (0, .ref (as_ 100)), (1, .int (nI mm)), (2, .long lt)] dX3_tryPlan_60 (by decide) rfl ?_
      refine x_aload_n F 3 dX3_tryPlan_62 rfl ?_
      refine x_get F inUX3 0 1 rfl rfl (by decide) wfX3_22 rfl dX3_tryPlan_63 ?_
      refine x_iload F 1 dX3_tryPlan_66 rfl ?_
      refine x_iald F 1 (k := j) rfl (by omega) (by decide) dX3_tryPlan_68 ?_
      refine x_istore F [(7, .int (MS 1 j)), (6, .int (nI j)), (5, .int (nI j)), (4, .int (nI 0)), (0, .ref (as_ 100)), (1, .int (nI mm)), (2, .long lt)] dX3_tryPlan_69 (by decide) rfl ?_
      refine x_aload_n F 4 dX3_tryPlan_71 rfl ?_
      refine x_get F inUX3 0 1 rfl rfl (by decide) wfX3_22 rfl dX3_tryPlan_72 ?_
      refine x_iload F 1 dX3_tryPlan_75 rfl ?_
      refine x_iald F 1 (k := j) rfl (by omega) (by decide) dX3_tryPlan_77 ?_
      refine x_istore F [(8, .int (MS 1 j)), (7, .int (MS 1 j)), (6, .int (nI j)), (5, .int (nI j)), (4, .int (nI 0)), (0, .ref (as_ 100)), (1, .int (nI mm)), (2, .long lt)] dX3_tryPlan_78 (by decide) rfl ?_
      refine x_iload F 4 dX3_tryPlan_80 rfl ?_
      refine x_if_eq F 106 dX3_tryPlan_82 (by decide) (fun h82 => ?_) (fun h82 => ?_)
      · have h82n : 0 = 0 := (nI_eq (by decide) (by decide)).mp (h82.trans nI_0.symm)
        refine x_aload_n F 5 dX3_tryPlan_106 rfl ?_
        refine x_get F inUX3 0 9 rfl rfl (by decide) wfX3_55 rfl dX3_tryPlan_107 ?_
        refine x_bipush F (nI 24) dX3_tryPlan_110 (by decide +kernel) ?_
        refine x_iushr F (((MS 9 0).toUInt32 >>> ((nI 24).toUInt32 &&& Int32.toUInt32 31)).toInt32) dX3_tryPlan_112 rfl ?_
        refine x_top (nI (unat (MS 9 0) 24)) (ush_eq _ 24 (by decide +kernel)) ?_
        refine x_bipush F (nI 7) dX3_tryPlan_113 (by decide +kernel) ?_
        refine x_irem F ((nI (unat (MS 9 0) 24)) - (nI (unat (MS 9 0) 24)) / (nI 7) * (nI 7)) dX3_tryPlan_115 (by decide) rfl ?_
        refine x_top (nI (unat (MS 9 0) 24 % 7)) (pk_rem (unat_lt _ (by decide)) (by decide) (by decide)) ?_
        refine x_istore F [(9, .int (nI (unat (MS 9 0) 24 % 7))), (8, .int (MS 1 j)), (7, .int (MS 1 j)), (6, .int (nI j)), (5, .int (nI j)), (4, .int (nI 0)), (0, .ref (as_ 100)), (1, .int (nI mm)), (2, .long lt)] dX3_tryPlan_116 (by decide) rfl ?_
        refine x_aload_n F 6 dX3_tryPlan_118 rfl ?_
        refine x_get F inUX3 0 1 rfl rfl (by decide) wfX3_22 rfl dX3_tryPlan_119 ?_
        refine x_iload F 4 dX3_tryPlan_122 rfl ?_
        refine x_iload F 0 dX3_tryPlan_124 rfl ?_
        refine x_callSNr F [.int (nI j), .ref (as_ 1)] [] (c_X4_isRoom l D cA (nI (unat (MS 9 0) 24 % 7))) mwX4_isRoom F.2.1.2.1.2.2.2.2.1 rfl rfl (Nat.le_of_ble_eq_true rfl) ⟨by decide, by decide⟩ ⟨by show _ ≤ 0; omega, by show _ ≤ 0; omega⟩ rfl (by decide) dX3_tryPlan_126 (fun r1 hp2 => ?_)
        subst hp2
        refine x_if_eq F 137 dX3_tryPlan_129 (by decide) (fun h129 => ?_) (fun h129 => ?_)
        · have erm : (if unat (MS 9 0) 24 % 7 ≤ 5 then nI (unat (MS 9 0) 24 % 7) else (-1)) = (-1) := if_neg (fun z => bz_0.mp h129 (wn_in z (by decide)))
          refine x_iconst F (-1) dX3_tryPlan_137 (by decide +kernel) ?_
          refine x_iast F 1 (k := j) ((wS cA as_ (ad 100) L (st2 MS 1 j (-1)) JS mk) ++ (wF cA ad M)) rfl (by omega) (by decide) rfl dX3_tryPlan_138 ?_
          have et : tpl MS mm = upd (MS 1) j (if unat (MS 9 0) 24 % 7 ≤ 5 then nI (unat (MS 9 0) 24 % 7) else (-1)) := by unfold tpl; rw [if_neg h10n, ejx]
          have er : upd (upd (tpl MS mm) j (MS 1 j)) j (MS 1 j) = MS 1 := by rw [et]; exact put_back _ _ _
          refine x_ws ((wS cA as_ (ad 100) L (va_up MS 1 (tpl MS mm)) JS mk) ++ (wF cA ad M)) (by rw [show (st2 MS 1 j (-1)) = va_up MS 1 (tpl MS mm) from by rw [et, erm, st2_row0]]) ?_
          refine x_aload_n F 6 dX3_tryPlan_139 rfl ?_
          refine x_get F inUX3 0 0 rfl rfl (by decide) wfX3_12 rfl dX3_tryPlan_140 ?_
          refine x_aload_n F 6 dX3_tryPlan_143 rfl ?_
          refine x_get F inUX3 0 1 rfl rfl (by decide) wfX3_22 rfl dX3_tryPlan_144 ?_
          refine x_callV F [] ([0, 2, 3, 4, 5].filterMap (fun i => ((wS cA as_ (ad 100) L (va_up MS 1 (tpl MS mm)) JS mk) ++ (wF cA ad M))[i]?)) [6, 7, 8, 9, 10, 11, 12, 13, 14, 15, 1] [0, 2, 3, 4, 5] (c_X0_scoreOf l D cA ad M (as_ 1) (tpl MS mm)) mwX0_scoreOf wmX3_111 rfl (q0 := 0) rfl rfl rfl (Nat.le_of_ble_eq_true rfl) ⟨by decide, by decide⟩ ⟨by show _ ≤ 0; omega, by show _ ≤ 0; omega⟩ rfl rfl (by decide) (by decide) (by decide) dX3_tryPlan_147 (fun r3 u4 hp5 => ?_)
          obtain ⟨rfl, eu4⟩ := hp5
          refine x_sub ((wS cA as_ (ad 100) L (va_up MS 1 (tpl MS mm)) JS mk) ++ (wF cA ad u4)) [0, 15, 1, 2, 3, 4, 5, 6, 7, 8, 9, 10, 11, 12, 13, 14] rfl (by decide) ?_
          obtain ⟨vu4, evu4⟩ : ∃ z, z = scL M (tpl MS mm) := ⟨_, rfl⟩
          rw [← evu4]
          refine x_lstore F [(9, .long vu4), (8, .int (MS 1 j)), (7, .int (MS 1 j)), (6, .int (nI j)), (5, .int (nI j)), (4, .int (nI 0)), (0, .ref (as_ 100)), (1, .int (nI mm)), (2, .long lt)] dX3_tryPlan_150 (by decide) rfl ?_
          refine x_aload_n F 6 dX3_tryPlan_152 rfl ?_
          refine x_get F inUX3 0 6 rfl rfl (by decide) wfX3_38 rfl dX3_tryPlan_153 ?_
          refine x_lload F 0 dX3_tryPlan_156 rfl ?_
          refine x_lcmp F (lg_cmp (JS 6 0) vu4) dX3_tryPlan_158 rfl ?_
          refine x_if_ge F 190 dX3_tryPlan_159 (by decide) (fun h159 => ?_) (fun h159 => ?_)
          · refine x_aload_n F 6 dX3_tryPlan_190 rfl ?_
            refine x_lload F 0 dX3_tryPlan_191 rfl ?_
            refine x_put F inUX3 tyX3_ok nmX3 0 6 ((wS cA as_ (ad 100) L (va_up MS 1 (tpl MS mm)) (st3 JS 6 0 vu4) mk) ++ (wF cA ad u4)) rfl rfl (by decide) wfX3_38 rfl rfl rfl rfl (Nat.le_of_ble_eq_true rfl) rfl dX3_tryPlan_193 ?_
            refine x_aload_n F 6 dX3_tryPlan_196 rfl ?_
            refine x_dup F dX3_tryPlan_197 rfl ?_
            refine x_get F inUX3 0 10 rfl rfl (by decide) wfX3_49 rfl dX3_tryPlan_198 ?_
            refine x_iconst F (nI 1) dX3_tryPlan_201 (by decide +kernel) ?_
            refine x_iadd F (((va_up MS 1 (tpl MS mm)) 10 0) + (nI 1)) dX3_tryPlan_202 rfl ?_
            refine x_put F inUX3 tyX3_ok nmX3 0 10 ((wS cA as_ (ad 100) L (st2 (va_up MS 1 (tpl MS mm)) 10 0 (((va_up MS 1 (tpl MS mm)) 10 0) + (nI 1))) (st3 JS 6 0 vu4) mk) ++ (wF cA ad u4)) rfl rfl (by decide) wfX3_49 rfl rfl rfl rfl (Nat.le_of_ble_eq_true rfl) rfl dX3_tryPlan_203 ?_
            have etr : tryS mm lt (MS, JS, M) = if JS 6 0 < vu4 ∧ lt < vu4 then (MS, JS, u4) else (st2 (va_up MS 1 (tpl MS mm)) 10 0 (MS 10 0 + nI 1), st3 JS 6 0 vu4, u4) := by rw [evu4, eu4]; rfl
            exact x_vret F ((st2 (va_up MS 1 (tpl MS mm)) 10 0 (((va_up MS 1 (tpl MS mm)) 10 0) + (nI 1))), (st3 JS 6 0 vu4), u4) (⟨rfl, by rw [etr, if_neg (fun z => Int64.not_lt.mpr ((lg_cmp_ge _ _).mp h159) z.1)]; rfl⟩) (rfl) (by omega) (by omega) dX3_tryPlan_206
          · refine x_lload_n F 8 dX3_tryPlan_162 rfl ?_
            refine x_lload F 0 dX3_tryPlan_163 rfl ?_
            refine x_lcmp F (lg_cmp lt vu4) dX3_tryPlan_165 rfl ?_
            refine x_if_ge F 190 dX3_tryPlan_166 (by decide) (fun h166 => ?_) (fun h166 => ?_)
            · refine x_aload_n F 6 dX3_tryPlan_190 rfl ?_
              refine x_lload F 0 dX3_tryPlan_191 rfl ?_
              refine x_put F inUX3 tyX3_ok nmX3 0 6 ((wS cA as_ (ad 100) L (va_up MS 1 (tpl MS mm)) (st3 JS 6 0 vu4) mk) ++ (wF cA ad u4)) rfl rfl (by decide) wfX3_38 rfl rfl rfl rfl (Nat.le_of_ble_eq_true rfl) rfl dX3_tryPlan_193 ?_
              refine x_aload_n F 6 dX3_tryPlan_196 rfl ?_
              refine x_dup F dX3_tryPlan_197 rfl ?_
              refine x_get F inUX3 0 10 rfl rfl (by decide) wfX3_49 rfl dX3_tryPlan_198 ?_
              refine x_iconst F (nI 1) dX3_tryPlan_201 (by decide +kernel) ?_
              refine x_iadd F (((va_up MS 1 (tpl MS mm)) 10 0) + (nI 1)) dX3_tryPlan_202 rfl ?_
              refine x_put F inUX3 tyX3_ok nmX3 0 10 ((wS cA as_ (ad 100) L (st2 (va_up MS 1 (tpl MS mm)) 10 0 (((va_up MS 1 (tpl MS mm)) 10 0) + (nI 1))) (st3 JS 6 0 vu4) mk) ++ (wF cA ad u4)) rfl rfl (by decide) wfX3_49 rfl rfl rfl rfl (Nat.le_of_ble_eq_true rfl) rfl dX3_tryPlan_203 ?_
              have etr : tryS mm lt (MS, JS, M) = if JS 6 0 < vu4 ∧ lt < vu4 then (MS, JS, u4) else (st2 (va_up MS 1 (tpl MS mm)) 10 0 (MS 10 0 + nI 1), st3 JS 6 0 vu4, u4) := by rw [evu4, eu4]; rfl
              exact x_vret F ((st2 (va_up MS 1 (tpl MS mm)) 10 0 (((va_up MS 1 (tpl MS mm)) 10 0) + (nI 1))), (st3 JS 6 0 vu4), u4) (⟨rfl, by rw [etr, if_neg (fun z => Int64.not_lt.mpr ((lg_cmp_ge _ _).mp h166) z.2)]; rfl⟩) (rfl) (by omega) (by omega) dX3_tryPlan_206
            · refine x_aload_n F 6 dX3_tryPlan_169 rfl ?_
              refine x_get F inUX3 0 1 rfl rfl (by decide) wfX3_22 rfl dX3_tryPlan_170 ?_
              refine x_iload F 4 dX3_tryPlan_173 rfl ?_
              refine x_iload F 2 dX3_tryPlan_175 rfl ?_
              refine x_iast F 1 (k := j) ((wS cA as_ (ad 100) L (st2 (va_up MS 1 (tpl MS mm)) 1 j (MS 1 j)) JS mk) ++ (wF cA ad u4)) rfl (by omega) (by decide) rfl dX3_tryPlan_177 ?_
              refine x_aload_n F 6 dX3_tryPlan_178 rfl ?_
              refine x_get F inUX3 0 1 rfl rfl (by decide) wfX3_22 rfl dX3_tryPlan_179 ?_
              refine x_iload F 3 dX3_tryPlan_182 rfl ?_
              refine x_iload F 1 dX3_tryPlan_184 rfl ?_
              refine x_iast F 1 (k := j) ((wS cA as_ (ad 100) L (st2 (st2 (va_up MS 1 (tpl MS mm)) 1 j (MS 1 j)) 1 j (MS 1 j)) JS mk) ++ (wF cA ad u4)) rfl (by omega) (by decide) rfl dX3_tryPlan_186 ?_
              refine x_ws ((wS cA as_ (ad 100) L MS JS mk) ++ (wF cA ad u4)) (by rw [show (st2 (st2 (va_up MS 1 (tpl MS mm)) 1 j (MS 1 j)) 1 j (MS 1 j)) = MS from by rw [st2_row, st2_row, er, up_row]]) ?_
              refine x_goto F 206 dX3_tryPlan_187 (by decide) ?_
              have etr : tryS mm lt (MS, JS, M) = if JS 6 0 < vu4 ∧ lt < vu4 then (MS, JS, u4) else (st2 (va_up MS 1 (tpl MS mm)) 10 0 (MS 10 0 + nI 1), st3 JS 6 0 vu4, u4) := by rw [evu4, eu4]; rfl
              exact x_vret F (MS, JS, u4) (⟨rfl, by rw [etr, if_pos ⟨Int64.not_le.mp (fun z => h159 ((lg_cmp_ge _ _).mpr z)), Int64.not_le.mp (fun z => h166 ((lg_cmp_ge _ _).mpr z))⟩]⟩) (rfl) (by omega) (by omega) dX3_tryPlan_206
        · have erm : (if unat (MS 9 0) 24 % 7 ≤ 5 then nI (unat (MS 9 0) 24 % 7) else (-1)) = nI (unat (MS 9 0) 24 % 7) := if_pos ((nI_leI (by omega) (by decide)).mp (bz_n0.mp h129).2)
          refine x_iload F 0 dX3_tryPlan_132 rfl ?_
          refine x_goto F 138 dX3_tryPlan_134 (by decide) ?_
          refine x_iast F 1 (k := j) ((wS cA as_ (ad 100) L (st2 MS 1 j (nI (unat (MS 9 0) 24 % 7))) JS mk) ++ (wF cA ad M)) rfl (by omega) (by decide) rfl dX3_tryPlan_138 ?_
          have et : tpl MS mm = upd (MS 1) j (if unat (MS 9 0) 24 % 7 ≤ 5 then nI (unat (MS 9 0) 24 % 7) else (-1)) := by unfold tpl; rw [if_neg h10n, ejx]
          have er : upd (upd (tpl MS mm) j (MS 1 j)) j (MS 1 j) = MS 1 := by rw [et]; exact put_back _ _ _
          refine x_ws ((wS cA as_ (ad 100) L (va_up MS 1 (tpl MS mm)) JS mk) ++ (wF cA ad M)) (by rw [show (st2 MS 1 j (nI (unat (MS 9 0) 24 % 7))) = va_up MS 1 (tpl MS mm) from by rw [et, erm, st2_row0]]) ?_
          refine x_aload_n F 6 dX3_tryPlan_139 rfl ?_
          refine x_get F inUX3 0 0 rfl rfl (by decide) wfX3_12 rfl dX3_tryPlan_140 ?_
          refine x_aload_n F 6 dX3_tryPlan_143 rfl ?_
          refine x_get F inUX3 0 1 rfl rfl (by decide) wfX3_22 rfl dX3_tryPlan_144 ?_
          refine x_callV F [] ([0, 2, 3, 4, 5].filterMap (fun i => ((wS cA as_ (ad 100) L (va_up MS 1 (tpl MS mm)) JS mk) ++ (wF cA ad M))[i]?)) [6, 7, 8, 9, 10, 11, 12, 13, 14, 15, 1] [0, 2, 3, 4, 5] (c_X0_scoreOf l D cA ad M (as_ 1) (tpl MS mm)) mwX0_scoreOf wmX3_111 rfl (q0 := 0) rfl rfl rfl (Nat.le_of_ble_eq_true rfl) ⟨by decide, by decide⟩ ⟨by show _ ≤ 0; omega, by show _ ≤ 0; omega⟩ rfl rfl (by decide) (by decide) (by decide) dX3_tryPlan_147 (fun r6 u7 hp8 => ?_)
          obtain ⟨rfl, eu7⟩ := hp8
          refine x_sub ((wS cA as_ (ad 100) L (va_up MS 1 (tpl MS mm)) JS mk) ++ (wF cA ad u7)) [0, 15, 1, 2, 3, 4, 5, 6, 7, 8, 9, 10, 11, 12, 13, 14] rfl (by decide) ?_
          obtain ⟨vu7, evu7⟩ : ∃ z, z = scL M (tpl MS mm) := ⟨_, rfl⟩
          rw [← evu7]
          refine x_lstore F [(9, .long vu7), (8, .int (MS 1 j)), (7, .int (MS 1 j)), (6, .int (nI j)), (5, .int (nI j)), (4, .int (nI 0)), (0, .ref (as_ 100)), (1, .int (nI mm)), (2, .long lt)] dX3_tryPlan_150 (by decide) rfl ?_
          refine x_aload_n F 6 dX3_tryPlan_152 rfl ?_
          refine x_get F inUX3 0 6 rfl rfl (by decide) wfX3_38 rfl dX3_tryPlan_153 ?_
          refine x_lload F 0 dX3_tryPlan_156 rfl ?_
          refine x_lcmp F (lg_cmp (JS 6 0) vu7) dX3_tryPlan_158 rfl ?_
          refine x_if_ge F 190 dX3_tryPlan_159 (by decide) (fun h159 => ?_) (fun h159 => ?_)
          · refine x_aload_n F 6 dX3_tryPlan_190 rfl ?_
            refine x_lload F 0 dX3_tryPlan_191 rfl ?_
            refine x_put F inUX3 tyX3_ok nmX3 0 6 ((wS cA as_ (ad 100) L (va_up MS 1 (tpl MS mm)) (st3 JS 6 0 vu7) mk) ++ (wF cA ad u7)) rfl rfl (by decide) wfX3_38 rfl rfl rfl rfl (Nat.le_of_ble_eq_true rfl) rfl dX3_tryPlan_193 ?_
            refine x_aload_n F 6 dX3_tryPlan_196 rfl ?_
            refine x_dup F dX3_tryPlan_197 rfl ?_
            refine x_get F inUX3 0 10 rfl rfl (by decide) wfX3_49 rfl dX3_tryPlan_198 ?_
            refine x_iconst F (nI 1) dX3_tryPlan_201 (by decide +kernel) ?_
            refine x_iadd F (((va_up MS 1 (tpl MS mm)) 10 0) + (nI 1)) dX3_tryPlan_202 rfl ?_
            refine x_put F inUX3 tyX3_ok nmX3 0 10 ((wS cA as_ (ad 100) L (st2 (va_up MS 1 (tpl MS mm)) 10 0 (((va_up MS 1 (tpl MS mm)) 10 0) + (nI 1))) (st3 JS 6 0 vu7) mk) ++ (wF cA ad u7)) rfl rfl (by decide) wfX3_49 rfl rfl rfl rfl (Nat.le_of_ble_eq_true rfl) rfl dX3_tryPlan_203 ?_
            have etr : tryS mm lt (MS, JS, M) = if JS 6 0 < vu7 ∧ lt < vu7 then (MS, JS, u7) else (st2 (va_up MS 1 (tpl MS mm)) 10 0 (MS 10 0 + nI 1), st3 JS 6 0 vu7, u7) := by rw [evu7, eu7]; rfl
            exact x_vret F ((st2 (va_up MS 1 (tpl MS mm)) 10 0 (((va_up MS 1 (tpl MS mm)) 10 0) + (nI 1))), (st3 JS 6 0 vu7), u7) (⟨rfl, by rw [etr, if_neg (fun z => Int64.not_lt.mpr ((lg_cmp_ge _ _).mp h159) z.1)]; rfl⟩) (rfl) (by omega) (by omega) dX3_tryPlan_206
          · refine x_lload_n F 8 dX3_tryPlan_162 rfl ?_
            refine x_lload F 0 dX3_tryPlan_163 rfl ?_
            refine x_lcmp F (lg_cmp lt vu7) dX3_tryPlan_165 rfl ?_
            refine x_if_ge F 190 dX3_tryPlan_166 (by decide) (fun h166 => ?_) (fun h166 => ?_)
            · refine x_aload_n F 6 dX3_tryPlan_190 rfl ?_
              refine x_lload F 0 dX3_tryPlan_191 rfl ?_
              refine x_put F inUX3 tyX3_ok nmX3 0 6 ((wS cA as_ (ad 100) L (va_up MS 1 (tpl MS mm)) (st3 JS 6 0 vu7) mk) ++ (wF cA ad u7)) rfl rfl (by decide) wfX3_38 rfl rfl rfl rfl (Nat.le_of_ble_eq_true rfl) rfl dX3_tryPlan_193 ?_
              refine x_aload_n F 6 dX3_tryPlan_196 rfl ?_
              refine x_dup F dX3_tryPlan_197 rfl ?_
              refine x_get F inUX3 0 10 rfl rfl (by decide) wfX3_49 rfl dX3_tryPlan_198 ?_
              refine x_iconst F (nI 1) dX3_tryPlan_201 (by decide +kernel) ?_
              refine x_iadd F (((va_up MS 1 (tpl MS mm)) 10 0) + (nI 1)) dX3_tryPlan_202 rfl ?_
              refine x_put F inUX3 tyX3_ok nmX3 0 10 ((wS cA as_ (ad 100) L (st2 (va_up MS 1 (tpl MS mm)) 10 0 (((va_up MS 1 (tpl MS mm)) 10 0) + (nI 1))) (st3 JS 6 0 vu7) mk) ++ (wF cA ad u7)) rfl rfl (by decide) wfX3_49 rfl rfl rfl rfl (Nat.le_of_ble_eq_true rfl) rfl dX3_tryPlan_203 ?_
              have etr : tryS mm lt (MS, JS, M) = if JS 6 0 < vu7 ∧ lt < vu7 then (MS, JS, u7) else (st2 (va_up MS 1 (tpl MS mm)) 10 0 (MS 10 0 + nI 1), st3 JS 6 0 vu7, u7) := by rw [evu7, eu7]; rfl
              exact x_vret F ((st2 (va_up MS 1 (tpl MS mm)) 10 0 (((va_up MS 1 (tpl MS mm)) 10 0) + (nI 1))), (st3 JS 6 0 vu7), u7) (⟨rfl, by rw [etr, if_neg (fun z => Int64.not_lt.mpr ((lg_cmp_ge _ _).mp h166) z.2)]; rfl⟩) (rfl) (by omega) (by omega) dX3_tryPlan_206
            · refine x_aload_n F 6 dX3_tryPlan_169 rfl ?_
              refine x_get F inUX3 0 1 rfl rfl (by decide) wfX3_22 rfl dX3_tryPlan_170 ?_
              refine x_iload F 4 dX3_tryPlan_173 rfl ?_
              refine x_iload F 2 dX3_tryPlan_175 rfl ?_
              refine x_iast F 1 (k := j) ((wS cA as_ (ad 100) L (st2 (va_up MS 1 (tpl MS mm)) 1 j (MS 1 j)) JS mk) ++ (wF cA ad u7)) rfl (by omega) (by decide) rfl dX3_tryPlan_177 ?_
              refine x_aload_n F 6 dX3_tryPlan_178 rfl ?_
              refine x_get F inUX3 0 1 rfl rfl (by decide) wfX3_22 rfl dX3_tryPlan_179 ?_
              refine x_iload F 3 dX3_tryPlan_182 rfl ?_
              refine x_iload F 1 dX3_tryPlan_184 rfl ?_
              refine x_iast F 1 (k := j) ((wS cA as_ (ad 100) L (st2 (st2 (va_up MS 1 (tpl MS mm)) 1 j (MS 1 j)) 1 j (MS 1 j)) JS mk) ++ (wF cA ad u7)) rfl (by omega) (by decide) rfl dX3_tryPlan_186 ?_
              refine x_ws ((wS cA as_ (ad 100) L MS JS mk) ++ (wF cA ad u7)) (by rw [show (st2 (st2 (va_up MS 1 (tpl MS mm)) 1 j (MS 1 j)) 1 j (MS 1 j)) = MS from by rw [st2_row, st2_row, er, up_row]]) ?_
              refine x_goto F 206 dX3_tryPlan_187 (by decide) ?_
              have etr : tryS mm lt (MS, JS, M) = if JS 6 0 < vu7 ∧ lt < vu7 then (MS, JS, u7) else (st2 (va_up MS 1 (tpl MS mm)) 10 0 (MS 10 0 + nI 1), st3 JS 6 0 vu7, u7) := by rw [evu7, eu7]; rfl
              exact x_vret F (MS, JS, u7) (⟨rfl, by rw [etr, if_pos ⟨Int64.not_le.mp (fun z => h159 ((lg_cmp_ge _ _).mpr z)), Int64.not_le.mp (fun z => h166 ((lg_cmp_ge _ _).mpr z))⟩]⟩) (rfl) (by omega) (by omega) dX3_tryPlan_206
      · have h82n : ¬ 0 = 0 := fun z => h82 (((nI_eq (by decide) (by decide)).mpr z).trans nI_0)
        exact absurd h82n (by decide)
    · have h38n : ¬ 0 = 0 := fun z => h38 (((nI_eq (by decide) (by decide)).mpr z).trans nI_0)
      exact absurd h38n (by decide)
  · have h10n : (unat (MS 9 0) 8 % 4) = 3 := (nI_eq (by omega) (by decide)).mp h10
    refine x_iconst F (nI 1) dX3_tryPlan_13 (by decide +kernel) ?_
    refine x_goto F 18 dX3_tryPlan_14 (by decide) ?_
    refine x_istore F [(4, .int (nI 1)), (0, .ref (as_ 100)), (1, .int (nI mm)), (2, .long lt)] dX3_tryPlan_18 (by decide) rfl ?_
    refine x_aload_n F 1 dX3_tryPlan_20 rfl ?_
    refine x_get F inUX3 0 5 rfl rfl (by decide) wfX3_35 rfl dX3_tryPlan_21 ?_
    refine x_aload_n F 1 dX3_tryPlan_24 rfl ?_
    refine x_get F inUX3 0 9 rfl rfl (by decide) wfX3_55 rfl dX3_tryPlan_25 ?_
    refine x_bipush F (nI 16) dX3_tryPlan_28 (by decide +kernel) ?_
    refine x_iushr F (((MS 9 0).toUInt32 >>> ((nI 16).toUInt32 &&& Int32.toUInt32 31)).toInt32) dX3_tryPlan_30 rfl ?_
    refine x_top (nI (unat (MS 9 0) 16)) (ush_eq _ 16 (by decide +kernel)) ?_
    refine x_iload_n F 2 dX3_tryPlan_31 rfl ?_
    refine x_irem F ((nI (unat (MS 9 0) 16)) - (nI (unat (MS 9 0) 16)) / (nI mm) * (nI mm)) dX3_tryPlan_32 (nI_ne0 hmm (by omega)) rfl ?_
    refine x_top (nI (unat (MS 9 0) 16 % mm)) (pk_rem (unat_lt _ (by decide)) hmm (by omega)) ?_
    refine x_iald F 5 (k := unat (MS 9 0) 16 % mm) rfl (Nat.lt_of_lt_of_le (Nat.mod_lt _ hmm) hm16) (by decide) dX3_tryPlan_33 ?_
    refine x_top (nI j) (ej) ?_
    refine x_istore F [(5, .int (nI j)), (4, .int (nI 1)), (0, .ref (as_ 100)), (1, .int (nI mm)), (2, .long lt)] dX3_tryPlan_34 (by decide) rfl ?_
    refine x_iload F 1 dX3_tryPlan_36 rfl ?_
    refine x_if_eq F 58 dX3_tryPlan_38 (by decide) (fun h38 => ?_) (fun h38 => ?_)
    · have h38n : 1 = 0 := (nI_eq (by decide) (by decide)).mp (h38.trans nI_0.symm)
      exact absurd h38n (by decide)
    · have h38n : ¬ 1 = 0 := fun z => h38 (((nI_eq (by decide) (by decide)).mpr z).trans nI_0)
      refine x_aload_n F 2 dX3_tryPlan_41 rfl ?_
      refine x_get F inUX3 0 5 rfl rfl (by decide) wfX3_35 rfl dX3_tryPlan_42 ?_
      refine x_aload_n F 2 dX3_tryPlan_45 rfl ?_
      refine x_get F inUX3 0 9 rfl rfl (by decide) wfX3_55 rfl dX3_tryPlan_46 ?_
      refine x_bipush F (nI 20) dX3_tryPlan_49 (by decide +kernel) ?_
      refine x_iushr F (((MS 9 0).toUInt32 >>> ((nI 20).toUInt32 &&& Int32.toUInt32 31)).toInt32) dX3_tryPlan_51 rfl ?_
      refine x_top (nI (unat (MS 9 0) 20)) (ush_eq _ 20 (by decide +kernel)) ?_
      refine x_iload_n F 3 dX3_tryPlan_52 rfl ?_
      refine x_irem F ((nI (unat (MS 9 0) 20)) - (nI (unat (MS 9 0) 20)) / (nI mm) * (nI mm)) dX3_tryPlan_53 (nI_ne0 hmm (by omega)) rfl ?_
      refine x_top (nI (unat (MS 9 0) 20 % mm)) (pk_rem (unat_lt _ (by decide)) hmm (by omega)) ?_
      refine x_iald F 5 (k := unat (MS 9 0) 20 % mm) rfl (Nat.lt_of_lt_of_le (Nat.mod_lt _ hmm) hm16) (by decide) dX3_tryPlan_54 ?_
      refine x_top (nI k) (ek) ?_
      refine x_goto F 60 dX3_tryPlan_55 (by decide) ?_
      refine x_istore F [(6, .int (nI k)), (5, .int (nI j)), (4, .int (nI 1)), (0, .ref (as_ 100)), (1, .int (nI mm)), (2, .long lt)] dX3_tryPlan_60 (by decide) rfl ?_
      refine x_aload_n F 3 dX3_tryPlan_62 rfl ?_
      refine x_get F inUX3 0 1 rfl rfl (by decide) wfX3_22 rfl dX3_tryPlan_63 ?_
      refine x_iload F 1 dX3_tryPlan_66 rfl ?_
      refine x_iald F 1 (k := j) rfl (by omega) (by decide) dX3_tryPlan_68 ?_
      refine x_istore F [(7, .int (MS 1 j)), (6, .int (nI k)), (5, .int (nI j)), (4, .int (nI 1)), (0, .ref (as_ 100)), (1, .int (nI mm)), (2, .long lt)] dX3_tryPlan_69 (by decide) rfl ?_
      refine x_aload_n F 4 dX3_tryPlan_71 rfl ?_
      refine x_get F inUX3 0 1 rfl rfl (by decide) wfX3_22 rfl dX3_tryPlan_72 ?_
      refine x_iload F 1 dX3_tryPlan_75 rfl ?_
      refine x_iald F 1 (k := k) rfl (by omega) (by decide) dX3_tryPlan_77 ?_
      refine x_istore F [(8, .int (MS 1 k)), (7, .int (MS 1 j)), (6, .int (nI k)), (5, .int (nI j)), (4, .int (nI 1)), (0, .ref (as_ 100)), (1, .int (nI mm)), (2, .long lt)] dX3_tryPlan_78 (by decide) rfl ?_
      refine x_iload F 4 dX3_tryPlan_80 rfl ?_
      refine x_if_eq F 106 dX3_tryPlan_82 (by decide) (fun h82 => ?_) (fun h82 => ?_)
      · have h82n : 1 = 0 := (nI_eq (by decide) (by decide)).mp (h82.trans nI_0.symm)
        exact absurd h82n (by decide)
      · have h82n : ¬ 1 = 0 := fun z => h82 (((nI_eq (by decide) (by decide)).mpr z).trans nI_0)
        refine x_aload_n F 5 dX3_tryPlan_85 rfl ?_
        refine x_get F inUX3 0 1 rfl rfl (by decide) wfX3_22 rfl dX3_tryPlan_86 ?_
        refine x_iload F 3 dX3_tryPlan_89 rfl ?_
        refine x_iload F 0 dX3_tryPlan_91 rfl ?_
        refine x_iast F 1 (k := j) ((wS cA as_ (ad 100) L (st2 MS 1 j (MS 1 k)) JS mk) ++ (wF cA ad M)) rfl (by omega) (by decide) rfl dX3_tryPlan_93 ?_
        refine x_aload_n F 5 dX3_tryPlan_94 rfl ?_
        refine x_get F inUX3 0 1 rfl rfl (by decide) wfX3_22 rfl dX3_tryPlan_95 ?_
        refine x_iload F 2 dX3_tryPlan_98 rfl ?_
        refine x_iload F 1 dX3_tryPlan_100 rfl ?_
        refine x_iast F 1 (k := k) ((wS cA as_ (ad 100) L (st2 (st2 MS 1 j (MS 1 k)) 1 k (MS 1 j)) JS mk) ++ (wF cA ad M)) rfl (by omega) (by decide) rfl dX3_tryPlan_102 ?_
        refine x_goto F 139 dX3_tryPlan_103 (by decide) ?_
        have et : tpl MS mm = upd (upd (MS 1) j (MS 1 k)) k (MS 1 j) := by unfold tpl; rw [if_pos h10n, ejx, ekx]
        have er : upd (upd (tpl MS mm) j (MS 1 j)) k (MS 1 k) = MS 1 := by rw [et]; exact swap_back _ _ _
        refine x_ws ((wS cA as_ (ad 100) L (va_up MS 1 (tpl MS mm)) JS mk) ++ (wF cA ad M)) (by rw [show (st2 (st2 MS 1 j (MS 1 k)) 1 k (MS 1 j)) = va_up MS 1 (tpl MS mm) from by rw [et, st2_row0 MS 1 j, st2_row]]) ?_
        refine x_aload_n F 5 dX3_tryPlan_139 rfl ?_
        refine x_get F inUX3 0 0 rfl rfl (by decide) wfX3_12 rfl dX3_tryPlan_140 ?_
        refine x_aload_n F 5 dX3_tryPlan_143 rfl ?_
        refine x_get F inUX3 0 1 rfl rfl (by decide) wfX3_22 rfl dX3_tryPlan_144 ?_
        refine x_callV F [] ([0, 2, 3, 4, 5].filterMap (fun i => ((wS cA as_ (ad 100) L (va_up MS 1 (tpl MS mm)) JS mk) ++ (wF cA ad M))[i]?)) [6, 7, 8, 9, 10, 11, 12, 13, 14, 15, 1] [0, 2, 3, 4, 5] (c_X0_scoreOf l D cA ad M (as_ 1) (tpl MS mm)) mwX0_scoreOf wmX3_111 rfl (q0 := 0) rfl rfl rfl (Nat.le_of_ble_eq_true rfl) ⟨by decide, by decide⟩ ⟨by show _ ≤ 0; omega, by show _ ≤ 0; omega⟩ rfl rfl (by decide) (by decide) (by decide) dX3_tryPlan_147 (fun r9 u10 hp11 => ?_)
        obtain ⟨rfl, eu10⟩ := hp11
        refine x_sub ((wS cA as_ (ad 100) L (va_up MS 1 (tpl MS mm)) JS mk) ++ (wF cA ad u10)) [0, 15, 1, 2, 3, 4, 5, 6, 7, 8, 9, 10, 11, 12, 13, 14] rfl (by decide) ?_
        obtain ⟨vu10, evu10⟩ : ∃ z, z = scL M (tpl MS mm) := ⟨_, rfl⟩
        rw [← evu10]
        refine x_lstore F [(9, .long vu10), (8, .int (MS 1 k)), (7, .int (MS 1 j)), (6, .int (nI k)), (5, .int (nI j)), (4, .int (nI 1)), (0, .ref (as_ 100)), (1, .int (nI mm)), (2, .long lt)] dX3_tryPlan_150 (by decide) rfl ?_
        refine x_aload_n F 6 dX3_tryPlan_152 rfl ?_
        refine x_get F inUX3 0 6 rfl rfl (by decide) wfX3_38 rfl dX3_tryPlan_153 ?_
        refine x_lload F 0 dX3_tryPlan_156 rfl ?_
        refine x_lcmp F (lg_cmp (JS 6 0) vu10) dX3_tryPlan_158 rfl ?_
        refine x_if_ge F 190 dX3_tryPlan_159 (by decide) (fun h159 => ?_) (fun h159 => ?_)
        · refine x_aload_n F 6 dX3_tryPlan_190 rfl ?_
          refine x_lload F 0 dX3_tryPlan_191 rfl ?_
          refine x_put F inUX3 tyX3_ok nmX3 0 6 ((wS cA as_ (ad 100) L (va_up MS 1 (tpl MS mm)) (st3 JS 6 0 vu10) mk) ++ (wF cA ad u10)) rfl rfl (by decide) wfX3_38 rfl rfl rfl rfl (Nat.le_of_ble_eq_true rfl) rfl dX3_tryPlan_193 ?_
          refine x_aload_n F 6 dX3_tryPlan_196 rfl ?_
          refine x_dup F dX3_tryPlan_197 rfl ?_
          refine x_get F inUX3 0 10 rfl rfl (by decide) wfX3_49 rfl dX3_tryPlan_198 ?_
          refine x_iconst F (nI 1) dX3_tryPlan_201 (by decide +kernel) ?_
          refine x_iadd F (((va_up MS 1 (tpl MS mm)) 10 0) + (nI 1)) dX3_tryPlan_202 rfl ?_
          refine x_put F inUX3 tyX3_ok nmX3 0 10 ((wS cA as_ (ad 100) L (st2 (va_up MS 1 (tpl MS mm)) 10 0 (((va_up MS 1 (tpl MS mm)) 10 0) + (nI 1))) (st3 JS 6 0 vu10) mk) ++ (wF cA ad u10)) rfl rfl (by decide) wfX3_49 rfl rfl rfl rfl (Nat.le_of_ble_eq_true rfl) rfl dX3_tryPlan_203 ?_
          have etr : tryS mm lt (MS, JS, M) = if JS 6 0 < vu10 ∧ lt < vu10 then (MS, JS, u10) else (st2 (va_up MS 1 (tpl MS mm)) 10 0 (MS 10 0 + nI 1), st3 JS 6 0 vu10, u10) := by rw [evu10, eu10]; rfl
          exact x_vret F ((st2 (va_up MS 1 (tpl MS mm)) 10 0 (((va_up MS 1 (tpl MS mm)) 10 0) + (nI 1))), (st3 JS 6 0 vu10), u10) (⟨rfl, by rw [etr, if_neg (fun z => Int64.not_lt.mpr ((lg_cmp_ge _ _).mp h159) z.1)]; rfl⟩) (rfl) (by omega) (by omega) dX3_tryPlan_206
        · refine x_lload_n F 8 dX3_tryPlan_162 rfl ?_
          refine x_lload F 0 dX3_tryPlan_163 rfl ?_
          refine x_lcmp F (lg_cmp lt vu10) dX3_tryPlan_165 rfl ?_
          refine x_if_ge F 190 dX3_tryPlan_166 (by decide) (fun h166 => ?_) (fun h166 => ?_)
          · refine x_aload_n F 6 dX3_tryPlan_190 rfl ?_
            refine x_lload F 0 dX3_tryPlan_191 rfl ?_
            refine x_put F inUX3 tyX3_ok nmX3 0 6 ((wS cA as_ (ad 100) L (va_up MS 1 (tpl MS mm)) (st3 JS 6 0 vu10) mk) ++ (wF cA ad u10)) rfl rfl (by decide) wfX3_38 rfl rfl rfl rfl (Nat.le_of_ble_eq_true rfl) rfl dX3_tryPlan_193 ?_
            refine x_aload_n F 6 dX3_tryPlan_196 rfl ?_
            refine x_dup F dX3_tryPlan_197 rfl ?_
            refine x_get F inUX3 0 10 rfl rfl (by decide) wfX3_49 rfl dX3_tryPlan_198 ?_
            refine x_iconst F (nI 1) dX3_tryPlan_201 (by decide +kernel) ?_
            refine x_iadd F (((va_up MS 1 (tpl MS mm)) 10 0) + (nI 1)) dX3_tryPlan_202 rfl ?_
            refine x_put F inUX3 tyX3_ok nmX3 0 10 ((wS cA as_ (ad 100) L (st2 (va_up MS 1 (tpl MS mm)) 10 0 (((va_up MS 1 (tpl MS mm)) 10 0) + (nI 1))) (st3 JS 6 0 vu10) mk) ++ (wF cA ad u10)) rfl rfl (by decide) wfX3_49 rfl rfl rfl rfl (Nat.le_of_ble_eq_true rfl) rfl dX3_tryPlan_203 ?_
            have etr : tryS mm lt (MS, JS, M) = if JS 6 0 < vu10 ∧ lt < vu10 then (MS, JS, u10) else (st2 (va_up MS 1 (tpl MS mm)) 10 0 (MS 10 0 + nI 1), st3 JS 6 0 vu10, u10) := by rw [evu10, eu10]; rfl
            exact x_vret F ((st2 (va_up MS 1 (tpl MS mm)) 10 0 (((va_up MS 1 (tpl MS mm)) 10 0) + (nI 1))), (st3 JS 6 0 vu10), u10) (⟨rfl, by rw [etr, if_neg (fun z => Int64.not_lt.mpr ((lg_cmp_ge _ _).mp h166) z.2)]; rfl⟩) (rfl) (by omega) (by omega) dX3_tryPlan_206
          · refine x_aload_n F 6 dX3_tryPlan_169 rfl ?_
            refine x_get F inUX3 0 1 rfl rfl (by decide) wfX3_22 rfl dX3_tryPlan_170 ?_
            refine x_iload F 4 dX3_tryPlan_173 rfl ?_
            refine x_iload F 2 dX3_tryPlan_175 rfl ?_
            refine x_iast F 1 (k := j) ((wS cA as_ (ad 100) L (st2 (va_up MS 1 (tpl MS mm)) 1 j (MS 1 j)) JS mk) ++ (wF cA ad u10)) rfl (by omega) (by decide) rfl dX3_tryPlan_177 ?_
            refine x_aload_n F 6 dX3_tryPlan_178 rfl ?_
            refine x_get F inUX3 0 1 rfl rfl (by decide) wfX3_22 rfl dX3_tryPlan_179 ?_
            refine x_iload F 3 dX3_tryPlan_182 rfl ?_
            refine x_iload F 1 dX3_tryPlan_184 rfl ?_
            refine x_iast F 1 (k := k) ((wS cA as_ (ad 100) L (st2 (st2 (va_up MS 1 (tpl MS mm)) 1 j (MS 1 j)) 1 k (MS 1 k)) JS mk) ++ (wF cA ad u10)) rfl (by omega) (by decide) rfl dX3_tryPlan_186 ?_
            refine x_ws ((wS cA as_ (ad 100) L MS JS mk) ++ (wF cA ad u10)) (by rw [show (st2 (st2 (va_up MS 1 (tpl MS mm)) 1 j (MS 1 j)) 1 k (MS 1 k)) = MS from by rw [st2_row, st2_row, er, up_row]]) ?_
            refine x_goto F 206 dX3_tryPlan_187 (by decide) ?_
            have etr : tryS mm lt (MS, JS, M) = if JS 6 0 < vu10 ∧ lt < vu10 then (MS, JS, u10) else (st2 (va_up MS 1 (tpl MS mm)) 10 0 (MS 10 0 + nI 1), st3 JS 6 0 vu10, u10) := by rw [evu10, eu10]; rfl
            exact x_vret F (MS, JS, u10) (⟨rfl, by rw [etr, if_pos ⟨Int64.not_le.mp (fun z => h159 ((lg_cmp_ge _ _).mpr z)), Int64.not_le.mp (fun z => h166 ((lg_cmp_ge _ _).mpr z))⟩]⟩) (rfl) (by omega) (by omega) dX3_tryPlan_206

set_option maxHeartbeats 4000000 in
set_option maxRecDepth 100000 in
theorem c_X3_makeStep (l : Launch) (D : va_G) (cA : Nat → ClassId) (as_ : Nat → Nat) (L : Nat) (MS : Nat → Nat → Int32) (JS : Nat → Nat → Int64) (mk : Nat → Option Nat) (ad : Nat → Nat) (M : Nat → Nat → Int32) (mm t : Nat) (hmm : mm ≤ 16) (hmv : ∀ i, i < mm → ∃ j : Nat, j < 16 ∧ MS 5 i = nI j) (ht : MS 8 0 = nI t) (ht2 : t < 2 ^ 30) (hL : 0 < L) (hL2 : L < 2 ^ 31) : Cg l D cA yX3_makeStep cX3_makeStep 3 none 4 0 0 ([.ref (as_ 100), .int (nI mm)] : List Value) ((wS cA as_ (ad 100) L MS JS mk) ++ (wF cA ad M)) (fun (r : Option Value) (u : SJM) => r = none ∧ u = stepS mm L t (MS, JS, M)) (fun u : SJM => (wS cA as_ (ad 100) L (u.1) (u.2.1) mk) ++ (wF cA ad (u.2.2))) := by
  refine x_met (by decide +kernel) rfl (Nat.le_of_ble_eq_true rfl) ?_
  intro xp xe xs xm xbl xme xco F hnm
  refine x_lv [(0, .ref (as_ 100)), (1, .int (nI mm))] [0, 1] rfl ?_
  refine x_aload_n F 0 dX3_makeStep_0 rfl ?_
  refine x_aload_n F 0 dX3_makeStep_1 rfl ?_
  refine x_get F inUX3 0 9 rfl rfl (by decide) wfX3_55 rfl dX3_makeStep_2 ?_
  refine x_ldc F (1103515245) wvX3_129 dX3_makeStep_5 ?_
  refine x_top (nI 1103515245) (by decide +kernel) ?_
  refine x_imul F ((MS 9 0) * (nI 1103515245)) dX3_makeStep_7 rfl ?_
  refine x_sipush F (nI 12345) dX3_makeStep_8 (by decide +kernel) ?_
  refine x_iadd F (((MS 9 0) * (nI 1103515245)) + (nI 12345)) dX3_makeStep_11 rfl ?_
  refine x_put F inUX3 tyX3_ok nmX3 0 9 ((wS cA as_ (ad 100) L (st2 MS 9 0 (((MS 9 0) * (nI 1103515245)) + (nI 12345))) JS mk) ++ (wF cA ad M)) rfl rfl (by decide) wfX3_55 rfl rfl rfl rfl (Nat.le_of_ble_eq_true rfl) rfl dX3_makeStep_12 ?_
  refine x_ws ((wS cA as_ (ad 100) L ((turnX (MS, JS, M)).1) JS mk) ++ (wF cA ad M)) rfl ?_
  obtain ⟨A1, eA1⟩ : ∃ z, z = (turnX (MS, JS, M)).1 := ⟨_, rfl⟩
  rw [← eA1]
  have h8 : A1 8 0 = nI t := by rw [eA1]; exact ht
  have h5 : A1 5 = MS 5 := by rw [eA1]; rfl
  have hml := Nat.mod_lt t hL
  refine x_aload_n F 0 dX3_makeStep_15 rfl ?_
  refine x_callVr F [] [0, 1, 2, 3, 4, 5] (c_X3_latePlace l D cA as_ L A1 JS mk (ad 100) t h8 (by omega) hL hL2) mwX3_latePlace wmX3_130 rfl (q0 := 0) rfl rfl rfl (Nat.le_of_ble_eq_true rfl) ⟨by decide, by decide⟩ ⟨by show _ ≤ 0; omega, by show _ ≤ 0; omega⟩ rfl (by decide) dX3_makeStep_16 (fun r1 hp2 => ?_)
  subst hp2
  refine x_istore_n F [(2, .int (nI (t % L))), (0, .ref (as_ 100)), (1, .int (nI mm))] dX3_makeStep_19 (by decide) rfl ?_
  refine x_iload_n F 2 dX3_makeStep_20 rfl ?_
  refine x_if_le F 35 dX3_makeStep_21 (by decide) (fun h21 => ?_) (fun h21 => ?_)
  · have h21n : mm ≤ 0 := (nI_leI (by omega) (by decide)).mp (by rw [nI_0]; exact h21)
    have em : ¬ 0 < mm := by omega
    obtain ⟨sg, esg⟩ : ∃ z : SJM, z = (A1, JS, M) := ⟨_, rfl⟩
    refine x_ws ((wS cA as_ (ad 100) L (sg.1) (sg.2.1) mk) ++ (wF cA ad (sg.2.2))) (by subst esg; rfl) ?_
    have h8s : sg.1 8 0 = nI t := by rw [esg]; exact h8
    refine x_aload_n F 1 dX3_makeStep_35 rfl ?_
    refine x_get F inUX3 0 3 rfl rfl (by decide) wfX3_58 rfl dX3_makeStep_36 ?_
    refine x_iload_n F 0 dX3_makeStep_39 rfl ?_
    refine x_aload_n F 1 dX3_makeStep_40 rfl ?_
    refine x_get F inUX3 0 6 rfl rfl (by decide) wfX3_38 rfl dX3_makeStep_41 ?_
    refine x_last F 3 (k := t % L) ((wS cA as_ (ad 100) L (sg.1) (st3 (sg.2.1) 3 (t % L) ((sg.2.1) 6 0)) mk) ++ (wF cA ad (sg.2.2))) rfl (by omega) (by omega) rfl dX3_makeStep_44 ?_
    refine x_ws ((wS cA as_ (ad 100) L ((lateP (t % L) sg).1) ((lateP (t % L) sg).2.1) mk) ++ (wF cA ad ((lateP (t % L) sg).2.2))) rfl ?_
    obtain ⟨sl, esl⟩ : ∃ z, z = lateP (t % L) sg := ⟨_, rfl⟩
    rw [← esl]
    refine x_aload_n F 1 dX3_makeStep_45 rfl ?_
    refine x_callV F [] ([]) [0, 1, 2, 3, 4, 5, 6, 7, 8, 9, 10, 11, 12, 13, 14, 15] [] (c_X3_keepIfBest l D cA as_ L (sl.1) (sl.2.1) mk ad (sl.2.2)) mwX3_keepIfBest wmX3_89 rfl (q0 := 0) rfl rfl rfl (Nat.le_of_ble_eq_true rfl) ⟨by decide, by decide⟩ ⟨by show _ ≤ 0; omega, by show _ ≤ 0; omega⟩ rfl rfl (by decide) (by decide) (by decide) dX3_makeStep_46 (fun r3 u4 hp5 => ?_)
    obtain ⟨rfl, rfl⟩ := hp5
    obtain ⟨sg6, esg6⟩ : ∃ z, z = keepB ((sl.1), (sl.2.1), (sl.2.2)) := ⟨_, rfl⟩
    rw [← esg6]
    refine x_aload_n F 1 dX3_makeStep_49 rfl ?_
    refine x_dup F dX3_makeStep_50 rfl ?_
    refine x_get F inUX3 0 8 rfl rfl (by decide) wfX3_45 rfl dX3_makeStep_51 ?_
    have h8k : sg6.1 8 0 = nI t := by rw [esg6, show keepB (sl.1, sl.2.1, sl.2.2) = keepB sl from rfl, keepB_o _ 8 (by decide) (by decide), esl]; exact h8s
    refine x_top (nI t) (h8k) ?_
    refine x_iconst F (nI 1) dX3_makeStep_54 (by decide +kernel) ?_
    refine x_iadd F (nI (t + 1)) dX3_makeStep_55 (nI_add _ _) ?_
    refine x_put F inUX3 tyX3_ok nmX3 0 8 ((wS cA as_ (ad 100) L (st2 (sg6.1) 8 0 (nI (t + 1))) (sg6.2.1) mk) ++ (wF cA ad (sg6.2.2))) rfl rfl (by decide) wfX3_45 rfl rfl rfl rfl (Nat.le_of_ble_eq_true rfl) rfl dX3_makeStep_56 ?_
    exact x_vret F ((st2 (sg6.1) 8 0 (nI (t + 1))), (sg6.2.1), (sg6.2.2)) (⟨rfl, by unfold stepS; rw [if_neg em, show turnX (MS, JS, M) = (A1, JS, M) from by rw [eA1]; rfl, ← esg, ← esl, show keepB sl = sg6 from esg6.symm]; rfl⟩) (rfl) (by omega) (by omega) dX3_makeStep_59
  · have h21n : ¬ mm ≤ 0 := fun z => h21 (by have w := ((nI_leI (by omega) (by decide)).mpr z); rw [nI_0] at w; exact w)
    have em : 0 < mm := by omega
    refine x_aload_n F 1 dX3_makeStep_24 rfl ?_
    refine x_iload_n F 2 dX3_makeStep_25 rfl ?_
    refine x_aload_n F 1 dX3_makeStep_26 rfl ?_
    refine x_get F inUX3 0 3 rfl rfl (by decide) wfX3_58 rfl dX3_makeStep_27 ?_
    refine x_iload_n F 0 dX3_makeStep_30 rfl ?_
    refine x_lald F 3 (k := t % L) rfl (by omega) (by omega) dX3_makeStep_31 ?_
    refine x_callV F [] ([]) [0, 1, 2, 3, 4, 5, 6, 7, 8, 9, 10, 11, 12, 13, 14, 15] [] (c_X3_tryPlan l D cA as_ L A1 JS mk ad M mm (JS 3 (t % L)) em hmm (fun i hi => by rw [h5]; exact hmv i hi)) mwX3_tryPlan wmX3_134 rfl (q0 := 0) rfl rfl rfl (Nat.le_of_ble_eq_true rfl) ⟨by decide, by decide⟩ ⟨by show _ ≤ 0; omega, by show _ ≤ 0; omega⟩ rfl rfl (by decide) (by decide) (by decide) dX3_makeStep_32 (fun r7 u8 hp9 => ?_)
    obtain ⟨rfl, rfl⟩ := hp9
    obtain ⟨sg, esg⟩ : ∃ z : SJM, z = (tryS mm (JS 3 (t % L)) (A1, JS, M)) := ⟨_, rfl⟩
    refine x_ws ((wS cA as_ (ad 100) L (sg.1) (sg.2.1) mk) ++ (wF cA ad (sg.2.2))) (by subst esg; rfl) ?_
    have h8s : sg.1 8 0 = nI t := by rw [esg, tryS_o _ _ _ 8 (by decide) (by decide)]; exact h8
    refine x_aload_n F 1 dX3_makeStep_35 rfl ?_
    refine x_get F inUX3 0 3 rfl rfl (by decide) wfX3_58 rfl dX3_makeStep_36 ?_
    refine x_iload_n F 0 dX3_makeStep_39 rfl ?_
    refine x_aload_n F 1 dX3_makeStep_40 rfl ?_
    refine x_get F inUX3 0 6 rfl rfl (by decide) wfX3_38 rfl dX3_makeStep_41 ?_
    refine x_last F 3 (k := t % L) ((wS cA as_ (ad 100) L (sg.1) (st3 (sg.2.1) 3 (t % L) ((sg.2.1) 6 0)) mk) ++ (wF cA ad (sg.2.2))) rfl (by omega) (by omega) rfl dX3_makeStep_44 ?_
    refine x_ws ((wS cA as_ (ad 100) L ((lateP (t % L) sg).1) ((lateP (t % L) sg).2.1) mk) ++ (wF cA ad ((lateP (t % L) sg).2.2))) rfl ?_
    obtain ⟨sl, esl⟩ : ∃ z, z = lateP (t % L) sg := ⟨_, rfl⟩
    rw [← esl]
    refine x_aload_n F 1 dX3_makeStep_45 rfl ?_
    refine x_callV F [] ([]) [0, 1, 2, 3, 4, 5, 6, 7, 8, 9, 10, 11, 12, 13, 14, 15] [] (c_X3_keepIfBest l D cA as_ L (sl.1) (sl.2.1) mk ad (sl.2.2)) mwX3_keepIfBest wmX3_89 rfl (q0 := 0) rfl rfl rfl (Nat.le_of_ble_eq_true rfl) ⟨by decide, by decide⟩ ⟨by show _ ≤ 0; omega, by show _ ≤ 0; omega⟩ rfl rfl (by decide) (by decide) (by decide) dX3_makeStep_46 (fun r10 u11 hp12 => ?_)
    obtain ⟨rfl, rfl⟩ := hp12
    obtain ⟨sg13, esg13⟩ : ∃ z, z = keepB ((sl.1), (sl.2.1), (sl.2.2)) := ⟨_, rfl⟩
    rw [← esg13]
    refine x_aload_n F 1 dX3_makeStep_49 rfl ?_
    refine x_dup F dX3_makeStep_50 rfl ?_
    refine x_get F inUX3 0 8 rfl rfl (by decide) wfX3_45 rfl dX3_makeStep_51 ?_
    have h8k : sg13.1 8 0 = nI t := by rw [esg13, show keepB (sl.1, sl.2.1, sl.2.2) = keepB sl from rfl, keepB_o _ 8 (by decide) (by decide), esl]; exact h8s
    refine x_top (nI t) (h8k) ?_
    refine x_iconst F (nI 1) dX3_makeStep_54 (by decide +kernel) ?_
    refine x_iadd F (nI (t + 1)) dX3_makeStep_55 (nI_add _ _) ?_
    refine x_put F inUX3 tyX3_ok nmX3 0 8 ((wS cA as_ (ad 100) L (st2 (sg13.1) 8 0 (nI (t + 1))) (sg13.2.1) mk) ++ (wF cA ad (sg13.2.2))) rfl rfl (by decide) wfX3_45 rfl rfl rfl rfl (Nat.le_of_ble_eq_true rfl) rfl dX3_makeStep_56 ?_
    exact x_vret F ((st2 (sg13.1) 8 0 (nI (t + 1))), (sg13.2.1), (sg13.2.2)) (⟨rfl, by unfold stepS; rw [if_pos em, show turnX (MS, JS, M) = (A1, JS, M) from by rw [eA1]; rfl, show tryS mm (((MS, JS, M) : SJM).2.1 3 (t % L)) (A1, JS, M) = sg from esg.symm, ← esl, show keepB sl = sg13 from esg13.symm]; rfl⟩) (rfl) (by omega) (by omega) dX3_makeStep_59

set_option maxHeartbeats 4000000 in
set_option maxRecDepth 100000 in
theorem c_X3_makeSteps (l : Launch) (D : va_G) (cA : Nat → ClassId) (as_ : Nat → Nat) (L : Nat) (MS : Nat → Nat → Int32) (JS : Nat → Nat → Int64) (mk : Nat → Option Nat) (ad : Nat → Nat) (M : Nat → Nat → Int32) (n t : Nat) (ht : MS 8 0 = nI t) (ht2 : t + n < 2 ^ 30) (hL : 0 < L) (hL2 : L < 2 ^ 31) : Cg l D cA yX3_makeSteps cX3_makeSteps 5 (some .int) 5 0 0 ([.ref (as_ 100), .int (nI n)] : List Value) ((wS cA as_ (ad 100) L MS JS mk) ++ (wF cA ad M)) (fun (r : Option Value) (u : SJM) => r = some (.int ((stepsS (mvc M 16) L t n (va_up MS 5 (mvr M (MS 5) 16), JS, M)).1 10 0 - MS 10 0)) ∧ u = stepsS (mvc M 16) L t n (va_up MS 5 (mvr M (MS 5) 16), JS, M)) (fun u : SJM => (wS cA as_ (ad 100) L (u.1) (u.2.1) mk) ++ (wF cA ad (u.2.2))) := by
  refine x_met (by decide +kernel) rfl (Nat.le_of_ble_eq_true rfl) ?_
  intro xp xe xs xm xbl xme xco F hnm
  refine x_lv [(0, .ref (as_ 100)), (1, .int (nI n))] [0, 1] rfl ?_
  have hmv16 := mvc_le M 16
  refine x_aload_n F 0 dX3_makeSteps_0 rfl ?_
  refine x_get F inUX3 0 10 rfl rfl (by decide) wfX3_49 rfl dX3_makeSteps_1 ?_
  refine x_istore_n F [(2, .int (MS 10 0)), (0, .ref (as_ 100)), (1, .int (nI n))] dX3_makeSteps_4 (by decide) rfl ?_
  refine x_aload_n F 1 dX3_makeSteps_5 rfl ?_
  refine x_get F inUX3 0 0 rfl rfl (by decide) wfX3_12 rfl dX3_makeSteps_6 ?_
  refine x_aload_n F 1 dX3_makeSteps_9 rfl ?_
  refine x_get F inUX3 0 5 rfl rfl (by decide) wfX3_35 rfl dX3_makeSteps_10 ?_
  refine x_callV F [] ([0, 1, 2, 3, 4].filterMap (fun i => ((wS cA as_ (ad 100) L MS JS mk) ++ (wF cA ad M))[i]?)) [6, 7, 8, 9, 10, 11, 12, 13, 14, 15, 5] [0, 1, 2, 3, 4] (c_X0_listMovable l D cA ad M (as_ 5) (MS 5)) mwX0_listMovable wmX3_121 rfl (q0 := 0) rfl rfl rfl (Nat.le_of_ble_eq_true rfl) ⟨by decide, by decide⟩ ⟨by show _ ≤ 0; omega, by show _ ≤ 0; omega⟩ rfl rfl (by decide) (by decide) (by decide) dX3_makeSteps_13 (fun r1 u2 hp3 => ?_)
  obtain ⟨rfl, rfl⟩ := hp3
  refine x_sub ((wS cA as_ (ad 100) L (va_up MS 5 (mvr M (MS 5) 16)) JS mk) ++ (wF cA ad M)) [0, 1, 2, 3, 4, 15, 5, 6, 7, 8, 9, 10, 11, 12, 13, 14] rfl (by decide) ?_
  refine x_istore_n F [(3, .int (nI (mvc M 16))), (2, .int (MS 10 0)), (0, .ref (as_ 100)), (1, .int (nI n))] dX3_makeSteps_16 (by decide) rfl ?_
  refine x_iconst F (nI 0) dX3_makeSteps_17 (by decide +kernel) ?_
  refine x_istore F [(4, .int (nI 0)), (3, .int (nI (mvc M 16))), (2, .int (MS 10 0)), (0, .ref (as_ 100)), (1, .int (nI n))] dX3_makeSteps_18 (by decide) rfl ?_
  refine x_lv [(0, .ref (as_ 100)), (1, .int (nI n)), (2, .int (MS 10 0)), (3, .int (nI (mvc M 16))), (4, .int (nI 0))] [3, 4, 2, 1, 0] rfl ?_
  have loop20 : ∀ (nn20 : Nat) (i : Nat) (sg : SJM), (i ≤ n) → (sg = stepsS (mvc M 16) L t i (va_up MS 5 (mvr M (MS 5) 16), JS, M)) → (n - i < nn20) → Wx xp l xe (rmL 5 0 0) xs xm ([.ref (as_ 100), .int (nI n)] : List Value).toArray xbl xme xco 0 0 (xQ xbl D ((wS cA as_ (ad 100) L MS JS mk) ++ (wF cA ad M)) xs ([.ref (as_ 100), .int (nI n)] : List Value).toArray 0 0 (fun (r : Option Value) (u : SJM) => r = some (.int ((stepsS (mvc M 16) L t n (va_up MS 5 (mvr M (MS 5) 16), JS, M)).1 10 0 - MS 10 0)) ∧ u = stepsS (mvc M 16) L t n (va_up MS 5 (mvr M (MS 5) 16), JS, M)) (fun u : SJM => (wS cA as_ (ad 100) L (u.1) (u.2.1) mk) ++ (wF cA ad (u.2.2)))) 5 D (va_A ((wS cA as_ (ad 100) L MS JS mk) ++ (wF cA ad M)) xs.heap.size) 20 [(0, .ref (as_ 100)), (1, .int (nI n)), (2, .int (MS 10 0)), (3, .int (nI (mvc M 16))), (4, .int (nI i))] [] ((wS cA as_ (ad 100) L sg.1 sg.2.1 mk) ++ (wF cA ad sg.2.2)) := by
    intro nn20
    induction nn20 with
    | zero =>
      intro i sg hi esg hm20
      exact absurd hm20 (Nat.not_lt_zero _)
    | succ nn20 ih20 =>
      intro i sg hi esg hm20
      refine x_iload F 4 dX3_makeSteps_20 rfl ?_
      refine x_iload_n F 1 dX3_makeSteps_22 rfl ?_
      refine x_icmp_ge F 37 dX3_makeSteps_23 (by decide) (fun h23 => ?_) (fun h23 => ?_)
      · have h23n : n ≤ i := (nI_leI (by omega) (by omega)).mp h23
        obtain rfl : n = i := by omega
        refine x_aload_n F 0 dX3_makeSteps_37 rfl ?_
        refine x_get F inUX3 0 10 rfl rfl (by decide) wfX3_49 rfl dX3_makeSteps_38 ?_
        refine x_iload_n F 2 dX3_makeSteps_41 rfl ?_
        refine x_isub F ((sg.1 10 0) - (MS 10 0)) dX3_makeSteps_42 rfl ?_
        exact x_iret F sg (⟨by rw [← esg], esg⟩) (rfl) (by omega) (by omega) dX3_makeSteps_43
      · have h23n : ¬ n ≤ i := fun z => h23 ((nI_leI (by omega) (by omega)).mpr z)
        refine x_aload_n F 0 dX3_makeSteps_26 rfl ?_
        refine x_iload_n F 3 dX3_makeSteps_27 rfl ?_
        refine x_callV F [] ([]) [0, 1, 2, 3, 4, 5, 6, 7, 8, 9, 10, 11, 12, 13, 14, 15] [] (c_X3_makeStep l D cA as_ L sg.1 sg.2.1 mk ad sg.2.2 (mvc M 16) (t + i) (mvc_le M 16) (fun x hx => by rw [esg, stepsS_5]; exact mvr_job M (MS 5) 16 x hx) (by rw [esg]; exact stepsS_8 _ L t i _ ht) (by omega) hL hL2) mwX3_makeStep wmX3_125 rfl (q0 := 0) rfl rfl rfl (Nat.le_of_ble_eq_true rfl) ⟨by decide, by decide⟩ ⟨by show _ ≤ 0; omega, by show _ ≤ 0; omega⟩ rfl rfl (by decide) (by decide) (by decide) dX3_makeSteps_28 (fun r4 u5 hp6 => ?_)
        obtain ⟨rfl, rfl⟩ := hp6
        refine x_iinc F (nI (i + 1)) 4 [(4, .int (nI (i + 1))), (0, .ref (as_ 100)), (1, .int (nI n)), (2, .int (MS 10 0)), (3, .int (nI (mvc M 16)))] dX3_makeSteps_31 rfl ((nI_add i 1)) (by decide) rfl ?_
        refine x_goto F 20 dX3_makeSteps_34 (by decide) ?_
        refine x_lv [(0, .ref (as_ 100)), (1, .int (nI n)), (2, .int (MS 10 0)), (3, .int (nI (mvc M 16))), (4, .int (nI (i + 1)))] [1, 2, 3, 4, 0] rfl ?_
        exact ih20 (i + 1) (stepS (mvc M 16) L (t + i) (sg.1, sg.2.1, sg.2.2)) (by omega) (by rw [esg]; rfl) (by omega)
  exact loop20 _ 0 (va_up MS 5 (mvr M (MS 5) 16), JS, M) (by omega) rfl (Nat.lt_succ_self _)

set_option maxHeartbeats 4000000 in
set_option maxRecDepth 100000 in
theorem c_X3_keepIn (l : Launch) (D : va_G) (cA : Nat → ClassId) (as_ : Nat → Nat) (L : Nat) (MS : Nat → Nat → Int32) (JS : Nat → Nat → Int64) (mk : Nat → Option Nat) (ad : Nat → Nat) (M : Nat → Nat → Int32) (am : Nat → Nat) (MM : Nat → Nat → Int32) (JM : Nat → Nat → Int64) (hL : L < 2 ^ 31) : Cg l D cA yX3_keepIn cX3_keepIn 2 none 1 0 0 ([.ref (as_ 100), .ref (am 100)] : List Value) ((wS cA as_ (ad 100) L MS JS mk) ++ (wF cA ad M) ++ (wM cA am L MM JM)) (fun (r : Option Value) (u : (Nat → Nat → Int32) × (Nat → Nat → Int64)) => r = none ∧ u.1 = va_up (va_up (st2 MM 0 0 (M 0 0)) 1 (va_cpy (MS 1) (MM 1) 0 0 16)) 2 (va_cpy (MS 2) (MM 2) 0 0 16) ∧ u.2 = va_up JM 3 (va_cpy (JS 3) (JM 3) 0 0 L)) (fun u : (Nat → Nat → Int32) × (Nat → Nat → Int64) => (wS cA as_ (ad 100) L MS JS mk) ++ (wF cA ad M) ++ (wM cA am L u.1 u.2)) := by
  refine x_met (by decide +kernel) rfl (Nat.le_of_ble_eq_true rfl) ?_
  intro xp xe xs xm xbl xme xco F hnm
  refine x_lv [(0, .ref (as_ 100)), (1, .ref (am 100))] [0, 1] rfl ?_
  refine x_aload_n F 1 dX3_keepIn_0 rfl ?_
  refine x_aload_n F 0 dX3_keepIn_1 rfl ?_
  refine x_get F inUX3 0 0 rfl rfl (by decide) wfX3_12 rfl dX3_keepIn_2 ?_
  refine x_get F inUX0 6 0 rfl rfl (by decide) wfX3_68 rfl dX3_keepIn_5 ?_
  refine x_put F inUX2 tyX2_ok nmX2 16 0 ((wS cA as_ (ad 100) L MS JS mk) ++ (wF cA ad M) ++ (wM cA am L (st2 MM 0 0 (M 0 0)) JM)) rfl rfl (by decide) wfX3_142 rfl rfl rfl rfl (Nat.le_of_ble_eq_true rfl) rfl dX3_keepIn_8 ?_
  refine x_aload_n F 0 dX3_keepIn_11 rfl ?_
  refine x_get F inUX3 0 1 rfl rfl (by decide) wfX3_22 rfl dX3_keepIn_12 ?_
  refine x_iconst F (nI 0) dX3_keepIn_15 (by decide +kernel) ?_
  refine x_aload_n F 1 dX3_keepIn_16 rfl ?_
  refine x_get F inUX2 16 1 rfl rfl (by decide) wfX3_143 rfl dX3_keepIn_17 ?_
  refine x_iconst F (nI 0) dX3_keepIn_20 (by decide +kernel) ?_
  refine x_bipush F (nI 16) dX3_keepIn_21 (by decide +kernel) ?_
  refine x_copyI F 1 17 (k := 16) ((wS cA as_ (ad 100) L MS JS mk) ++ (wF cA ad M) ++ (wM cA am L (va_up (st2 MM 0 0 (M 0 0)) 1 (va_cpy (MS 1) ((st2 MM 0 0 (M 0 0)) 1) 0 0 16)) JM)) rfl rfl (by omega) (by omega) (by omega) rfl wmX3_115 (by decide) (by first | decide +kernel | exact Nat.le_of_ble_eq_true rfl) dX3_keepIn_23 ?_
  refine x_aload_n F 0 dX3_keepIn_26 rfl ?_
  refine x_get F inUX3 0 2 rfl rfl (by decide) wfX3_26 rfl dX3_keepIn_27 ?_
  refine x_iconst F (nI 0) dX3_keepIn_30 (by decide +kernel) ?_
  refine x_aload_n F 1 dX3_keepIn_31 rfl ?_
  refine x_get F inUX2 16 2 rfl rfl (by decide) wfX3_144 rfl dX3_keepIn_32 ?_
  refine x_iconst F (nI 0) dX3_keepIn_35 (by decide +kernel) ?_
  refine x_bipush F (nI 16) dX3_keepIn_36 (by decide +kernel) ?_
  refine x_copyI F 2 18 (k := 16) ((wS cA as_ (ad 100) L MS JS mk) ++ (wF cA ad M) ++ (wM cA am L (va_up (va_up (st2 MM 0 0 (M 0 0)) 1 (va_cpy (MS 1) ((st2 MM 0 0 (M 0 0)) 1) 0 0 16)) 2 (va_cpy (MS 2) ((va_up (st2 MM 0 0 (M 0 0)) 1 (va_cpy (MS 1) ((st2 MM 0 0 (M 0 0)) 1) 0 0 16)) 2) 0 0 16)) JM)) rfl rfl (by omega) (by omega) (by omega) rfl wmX3_115 (by decide) (by first | decide +kernel | exact Nat.le_of_ble_eq_true rfl) dX3_keepIn_38 ?_
  refine x_aload_n F 0 dX3_keepIn_41 rfl ?_
  refine x_get F inUX3 0 3 rfl rfl (by decide) wfX3_58 rfl dX3_keepIn_42 ?_
  refine x_iconst F (nI 0) dX3_keepIn_45 (by decide +kernel) ?_
  refine x_aload_n F 1 dX3_keepIn_46 rfl ?_
  refine x_get F inUX2 16 3 rfl rfl (by decide) wfX3_145 rfl dX3_keepIn_47 ?_
  refine x_iconst F (nI 0) dX3_keepIn_50 (by decide +kernel) ?_
  refine x_aload_n F 0 dX3_keepIn_51 rfl ?_
  refine x_get F inUX3 0 3 rfl rfl (by decide) wfX3_58 rfl dX3_keepIn_52 ?_
  refine x_alen F 3 1 rfl rfl (nI L) rfl dX3_keepIn_55 ?_
  refine x_copyJ F 3 19 (k := L) ((wS cA as_ (ad 100) L MS JS mk) ++ (wF cA ad M) ++ (wM cA am L (va_up (va_up (st2 MM 0 0 (M 0 0)) 1 (va_cpy (MS 1) ((st2 MM 0 0 (M 0 0)) 1) 0 0 16)) 2 (va_cpy (MS 2) ((va_up (st2 MM 0 0 (M 0 0)) 1 (va_cpy (MS 1) ((st2 MM 0 0 (M 0 0)) 1) 0 0 16)) 2) 0 0 16)) (va_up JM 3 (va_cpy (JS 3) (JM 3) 0 0 L)))) rfl rfl (by omega) (by omega) (by omega) rfl wmX3_115 (by decide) (by first | decide +kernel | exact Nat.le_of_ble_eq_true rfl) dX3_keepIn_56 ?_
  exact x_vret F ((va_up (va_up (st2 MM 0 0 (M 0 0)) 1 (va_cpy (MS 1) ((st2 MM 0 0 (M 0 0)) 1) 0 0 16)) 2 (va_cpy (MS 2) ((va_up (st2 MM 0 0 (M 0 0)) 1 (va_cpy (MS 1) ((st2 MM 0 0 (M 0 0)) 1) 0 0 16)) 2) 0 0 16)), (va_up JM 3 (va_cpy (JS 3) (JM 3) 0 0 L))) (⟨rfl, rfl, rfl⟩) (rfl) (by omega) (by omega) dX3_keepIn_59

/-- going back to a mark that had taken n, from k -/
def backS (G : Nat → Nat → Int32) (k n L : Nat) (MM : Nat → Nat → Int32) (JM : Nat → Nat → Int64) (σ : SJM) : SJM := anew (va_up (va_up σ.1 1 (va_cpy (MM 1) (σ.1 1) 0 0 16)) 2 (va_cpy (MM 2) (σ.1 2) 0 0 16), va_up σ.2.1 3 (va_cpy (JM 3) (σ.2.1 3) 0 0 L), becF G k n σ.2.2)
theorem itF_00 (G : Nat → Nat → Int32) (a c : Nat) (M : Nat → Nat → Int32) (h : M 0 0 = nI a) : itF G a c M 0 0 = nI (a + c) := by
  cases c with
  | zero => exact h
  | succ c => unfold itF; simp [st2, va_up, upd]; rfl
theorem becF_00 (G : Nat → Nat → Int32) (k n : Nat) (M : Nat → Nat → Int32) (h : M 0 0 = nI k) : becF G k n M 0 0 = nI n := by
  unfold becF; split
  · rw [itF_00 G 0 n _ rfl, Nat.zero_add]
  · rw [itF_00 G k _ _ h, show k + (n - k) = n by omega]
theorem scT_00 (M : Nat → Nat → Int32) (p : Nat → Int32) (n : Nat) : scT M p n 0 0 = M 0 0 := by rw [scT_o M p 0 (by decide) (by decide)]
theorem anew_00 (σ : SJM) : (anew σ).2.2 0 0 = σ.2.2 0 0 := by
  show scT (scT _ _ 16) _ 16 0 0 = _
  rw [scT_00, scT_00]
set_option maxHeartbeats 4000000 in
set_option maxRecDepth 100000 in
theorem c_X3_goBackTo (l : Launch) (D : va_G) (cA : Nat → ClassId) (as_ : Nat → Nat) (L : Nat) (MS : Nat → Nat → Int32) (JS : Nat → Nat → Int64) (mk : Nat → Option Nat) (ad : Nat → Nat) (M : Nat → Nat → Int32) (al : Nat → Nat) (ML : Nat → Nat → Int32) (am : Nat → Nat) (MM : Nat → Nat → Int32) (JM : Nat → Nat → Int64) (n k cnt : Nat) (hc : ML 5 0 = nI cnt) (hcn : cnt ≤ 120) (hk : M 0 0 = nI k) (hkc : k ≤ cnt) (hm : MM 0 0 = nI n) (hnc : n ≤ cnt) (hwf : ∀ i, i < cnt → wfE ML i) (hL : L < 2 ^ 31) : Cg l D cA yX3_goBackTo cX3_goBackTo 4 none 5 0 0 ([.ref (as_ 100), .ref (am 100), .ref (al 100)] : List Value) ((wS cA as_ (ad 100) L MS JS mk) ++ (wF cA ad M) ++ (wL cA al ML) ++ (wM cA am L MM JM)) (fun (r : Option Value) (u : SJM) => r = none ∧ u = if k ≤ n then backS ML k n L MM JM (MS, JS, M) else catchS ML n k L (backS ML k n L MM JM (MS, JS, M))) (fun u : SJM => (wS cA as_ (ad 100) L (u.1) (u.2.1) mk) ++ (wF cA ad (u.2.2)) ++ (wL cA al ML) ++ (wM cA am L MM JM)) := by
  refine x_met (by decide +kernel) rfl (Nat.le_of_ble_eq_true rfl) ?_
  intro xp xe xs xm xbl xme xco F hnm
  refine x_lv [(0, .ref (as_ 100)), (1, .ref (am 100)), (2, .ref (al 100))] [0, 1, 2] rfl ?_
  refine x_aload_n F 0 dX3_goBackTo_0 rfl ?_
  refine x_get F inUX3 0 0 rfl rfl (by decide) wfX3_12 rfl dX3_goBackTo_1 ?_
  refine x_get F inUX0 6 0 rfl rfl (by decide) wfX3_68 rfl dX3_goBackTo_4 ?_
  refine x_top (nI k) (hk) ?_
  refine x_istore_n F [(3, .int (nI k)), (0, .ref (as_ 100)), (1, .ref (am 100)), (2, .ref (al 100))] dX3_goBackTo_7 (by decide) rfl ?_
  refine x_aload_n F 1 dX3_goBackTo_8 rfl ?_
  refine x_get F inUX3 0 0 rfl rfl (by decide) wfX3_12 rfl dX3_goBackTo_9 ?_
  refine x_aload_n F 3 dX3_goBackTo_12 rfl ?_
  refine x_aload_n F 2 dX3_goBackTo_13 rfl ?_
  refine x_get F inUX2 22 0 rfl rfl (by decide) wfX3_142 rfl dX3_goBackTo_14 ?_
  refine x_top (nI n) (hm) ?_
  refine x_callV F [] ((wS cA as_ (ad 100) L MS JS mk) ++ (wM cA am L MM JM)) [6, 7, 8, 9, 10, 11, 12, 13, 14, 15, 16, 17, 18, 19, 20, 21] [0, 1, 2, 3, 4, 5, 22, 23, 24, 25] (c_X0_become l D cA ad M al ML n k cnt hc hcn hnc hk hkc hwf) mwX0_become wmX3_79 rfl (q0 := 0) rfl rfl rfl (Nat.le_of_ble_eq_true rfl) ⟨by decide, by decide⟩ ⟨by show _ ≤ 0; omega, by show _ ≤ 0; omega⟩ rfl rfl (by decide) (by decide) (by decide) dX3_goBackTo_17 (fun r1 u2 hp3 => ?_)
  obtain ⟨rfl, rfl⟩ := hp3
  refine x_sub ((wS cA as_ (ad 100) L MS JS mk) ++ (wF cA ad (becF ML k n M)) ++ (wL cA al ML) ++ (wM cA am L MM JM)) [0, 1, 2, 3, 4, 5, 10, 11, 12, 13, 14, 15, 16, 17, 18, 19, 20, 21, 22, 23, 24, 25, 6, 7, 8, 9] rfl (by decide) ?_
  refine x_aload_n F 2 dX3_goBackTo_20 rfl ?_
  refine x_get F inUX2 22 1 rfl rfl (by decide) wfX3_143 rfl dX3_goBackTo_21 ?_
  refine x_iconst F (nI 0) dX3_goBackTo_24 (by decide +kernel) ?_
  refine x_aload_n F 1 dX3_goBackTo_25 rfl ?_
  refine x_get F inUX3 0 1 rfl rfl (by decide) wfX3_22 rfl dX3_goBackTo_26 ?_
  refine x_iconst F (nI 0) dX3_goBackTo_29 (by decide +kernel) ?_
  refine x_bipush F (nI 16) dX3_goBackTo_30 (by decide +kernel) ?_
  refine x_copyI F 23 1 (k := 16) ((wS cA as_ (ad 100) L (va_up MS 1 (va_cpy (MM 1) (MS 1) 0 0 16)) JS mk) ++ (wF cA ad (becF ML k n M)) ++ (wL cA al ML) ++ (wM cA am L MM JM)) rfl rfl (by omega) (by omega) (by omega) rfl wmX3_115 (by decide) (by first | decide +kernel | exact Nat.le_of_ble_eq_true rfl) dX3_goBackTo_32 ?_
  refine x_aload_n F 2 dX3_goBackTo_35 rfl ?_
  refine x_get F inUX2 22 2 rfl rfl (by decide) wfX3_144 rfl dX3_goBackTo_36 ?_
  refine x_iconst F (nI 0) dX3_goBackTo_39 (by decide +kernel) ?_
  refine x_aload_n F 1 dX3_goBackTo_40 rfl ?_
  refine x_get F inUX3 0 2 rfl rfl (by decide) wfX3_26 rfl dX3_goBackTo_41 ?_
  refine x_iconst F (nI 0) dX3_goBackTo_44 (by decide +kernel) ?_
  refine x_bipush F (nI 16) dX3_goBackTo_45 (by decide +kernel) ?_
  refine x_copyI F 24 2 (k := 16) ((wS cA as_ (ad 100) L (va_up (va_up MS 1 (va_cpy (MM 1) (MS 1) 0 0 16)) 2 (va_cpy (MM 2) ((va_up MS 1 (va_cpy (MM 1) (MS 1) 0 0 16)) 2) 0 0 16)) JS mk) ++ (wF cA ad (becF ML k n M)) ++ (wL cA al ML) ++ (wM cA am L MM JM)) rfl rfl (by omega) (by omega) (by omega) rfl wmX3_115 (by decide) (by first | decide +kernel | exact Nat.le_of_ble_eq_true rfl) dX3_goBackTo_47 ?_
  refine x_aload_n F 2 dX3_goBackTo_50 rfl ?_
  refine x_get F inUX2 22 3 rfl rfl (by decide) wfX3_145 rfl dX3_goBackTo_51 ?_
  refine x_iconst F (nI 0) dX3_goBackTo_54 (by decide +kernel) ?_
  refine x_aload_n F 1 dX3_goBackTo_55 rfl ?_
  refine x_get F inUX3 0 3 rfl rfl (by decide) wfX3_58 rfl dX3_goBackTo_56 ?_
  refine x_iconst F (nI 0) dX3_goBackTo_59 (by decide +kernel) ?_
  refine x_aload_n F 1 dX3_goBackTo_60 rfl ?_
  refine x_get F inUX3 0 3 rfl rfl (by decide) wfX3_58 rfl dX3_goBackTo_61 ?_
  refine x_alen F 3 1 rfl rfl (nI L) rfl dX3_goBackTo_64 ?_
  refine x_copyJ F 25 3 (k := L) ((wS cA as_ (ad 100) L (va_up (va_up MS 1 (va_cpy (MM 1) (MS 1) 0 0 16)) 2 (va_cpy (MM 2) ((va_up MS 1 (va_cpy (MM 1) (MS 1) 0 0 16)) 2) 0 0 16)) (va_up JS 3 (va_cpy (JM 3) (JS 3) 0 0 L)) mk) ++ (wF cA ad (becF ML k n M)) ++ (wL cA al ML) ++ (wM cA am L MM JM)) rfl rfl (by omega) (by omega) (by omega) rfl wmX3_115 (by decide) (by first | decide +kernel | exact Nat.le_of_ble_eq_true rfl) dX3_goBackTo_65 ?_
  refine x_aload_n F 1 dX3_goBackTo_68 rfl ?_
  refine x_callV F [] ((wL cA al ML) ++ (wM cA am L MM JM)) [0, 1, 2, 3, 4, 5, 6, 7, 8, 9, 10, 11, 12, 13, 14, 15] [16, 17, 18, 19, 20, 21, 22, 23, 24, 25] (c_X3_scoreAnew l D cA as_ L (va_up (va_up MS 1 (va_cpy (MM 1) (MS 1) 0 0 16)) 2 (va_cpy (MM 2) ((va_up MS 1 (va_cpy (MM 1) (MS 1) 0 0 16)) 2) 0 0 16)) (va_up JS 3 (va_cpy (JM 3) (JS 3) 0 0 L)) mk ad (becF ML k n M)) mwX3_scoreAnew wmX3_86 rfl (q0 := 0) rfl rfl rfl (Nat.le_of_ble_eq_true rfl) ⟨by decide, by decide⟩ ⟨by show _ ≤ 0; omega, by show _ ≤ 0; omega⟩ rfl rfl (by decide) (by decide) (by decide) dX3_goBackTo_69 (fun r4 u5 hp6 => ?_)
  obtain ⟨rfl, rfl⟩ := hp6
  refine x_sub ((wS cA as_ (ad 100) L ((anew ((va_up (va_up MS 1 (va_cpy (MM 1) (MS 1) 0 0 16)) 2 (va_cpy (MM 2) ((va_up MS 1 (va_cpy (MM 1) (MS 1) 0 0 16)) 2) 0 0 16)), (va_up JS 3 (va_cpy (JM 3) (JS 3) 0 0 L)), (becF ML k n M))).1) ((anew ((va_up (va_up MS 1 (va_cpy (MM 1) (MS 1) 0 0 16)) 2 (va_cpy (MM 2) ((va_up MS 1 (va_cpy (MM 1) (MS 1) 0 0 16)) 2) 0 0 16)), (va_up JS 3 (va_cpy (JM 3) (JS 3) 0 0 L)), (becF ML k n M))).2.1) mk) ++ (wF cA ad ((anew ((va_up (va_up MS 1 (va_cpy (MM 1) (MS 1) 0 0 16)) 2 (va_cpy (MM 2) ((va_up MS 1 (va_cpy (MM 1) (MS 1) 0 0 16)) 2) 0 0 16)), (va_up JS 3 (va_cpy (JM 3) (JS 3) 0 0 L)), (becF ML k n M))).2.2)) ++ (wL cA al ML) ++ (wM cA am L MM JM)) [10, 11, 12, 13, 14, 15, 16, 17, 18, 19, 20, 21, 22, 23, 24, 25, 0, 1, 2, 3, 4, 5, 6, 7, 8, 9] rfl (by decide) ?_
  obtain ⟨sg7, esg7⟩ : ∃ z, z = anew ((va_up (va_up MS 1 (va_cpy (MM 1) (MS 1) 0 0 16)) 2 (va_cpy (MM 2) ((va_up MS 1 (va_cpy (MM 1) (MS 1) 0 0 16)) 2) 0 0 16)), (va_up JS 3 (va_cpy (JM 3) (JS 3) 0 0 L)), (becF ML k n M)) := ⟨_, rfl⟩
  rw [← esg7]
  have ebk : sg7 = backS ML k n L MM JM (MS, JS, M) := esg7
  have h00 : sg7.2.2 0 0 = nI n := by rw [esg7, anew_00]; exact becF_00 ML k n M hk
  refine x_aload_n F 1 dX3_goBackTo_72 rfl ?_
  refine x_aload_n F 3 dX3_goBackTo_73 rfl ?_
  refine x_iload_n F 0 dX3_goBackTo_74 rfl ?_
  refine x_callV F [] (wM cA am L MM JM) [0, 1, 2, 3, 4, 5, 6, 7, 8, 9, 10, 11, 12, 13, 14, 15, 16, 17, 18, 19, 20, 21] [22, 23, 24, 25] (c_X3_catchUp l D cA as_ L sg7.1 sg7.2.1 mk ad sg7.2.2 al ML k n cnt hc hcn hkc h00 hnc hwf hL) mwX3_catchUp wmX3_146 rfl (q0 := 0) rfl rfl rfl (Nat.le_of_ble_eq_true rfl) ⟨by decide, by decide⟩ ⟨by show _ ≤ 0; omega, by show _ ≤ 0; omega⟩ rfl rfl (by decide) (by decide) (by decide) dX3_goBackTo_75 (fun r8 u9 hp10 => ?_)
  obtain ⟨rfl, eu⟩ := hp10
  refine x_sub ((wS cA as_ (ad 100) L (u9.1) (u9.2.1) mk) ++ (wF cA ad (u9.2.2)) ++ (wL cA al ML) ++ (wM cA am L MM JM)) [4, 5, 6, 7, 8, 9, 10, 11, 12, 13, 14, 15, 16, 17, 18, 19, 20, 21, 22, 23, 24, 25, 0, 1, 2, 3] rfl (by decide) ?_
  refine x_pop F dX3_goBackTo_78 rfl ?_
  exact x_vret F u9 (⟨rfl, by rw [eu, show (sg7.1, sg7.2.1, sg7.2.2) = sg7 from rfl, ebk]⟩) (rfl) (by omega) (by omega) dX3_goBackTo_79

set_option maxHeartbeats 4000000 in
set_option maxRecDepth 100000 in
theorem c_X2_init (l : Launch) (D : va_G) (cA : Nat → ClassId) (h0 L : Nat) (hL : L ≤ 8) : Cg l D cA yX2_init cX2_init 2 none 1 3 40 ([.ref h0, .int (nI L)] : List Value) ([(h0, .inr (2, [.int 0, .null, .null, .null]))]) (fun (r : Option Value) (u : Nat → Nat) => r = none ∧ u 100 = h0) (fun u : Nat → Nat => wM cA u L (fun _ _ => 0) (fun _ _ => 0)) := by
  refine x_met (by decide +kernel) rfl (Nat.le_of_ble_eq_true rfl) ?_
  intro xp xe xs xm xbl xme xco F hnm
  refine x_lv [(0, .ref h0), (1, .int (nI L))] [0, 1] rfl ?_
  refine x_aload_n F 0 dX2_init_0 rfl ?_
  refine x_objInit F wmX2_3 wiJO_init wcJO_init (by decide) (Nat.le_of_ble_eq_true rfl) dX2_init_1 ?_
  refine x_aload_n F 0 dX2_init_4 rfl ?_
  refine x_iconst F (nI 0) dX2_init_5 (by decide +kernel) ?_
  refine x_put F inUX2 tyX2_ok nmX2 0 0 ([(h0, .inr (2, [.int (nI 0), .null, .null, .null]))]) rfl rfl (by decide) wfX2_9 rfl rfl rfl rfl (Nat.le_of_ble_eq_true rfl) rfl dX2_init_6 ?_
  refine x_aload_n F 0 dX2_init_9 rfl ?_
  refine x_bipush F (nI 16) dX2_init_10 (by decide +kernel) ?_
  refine x_newI F (k := 16) wa_int (by omega) (by show _ ≤ 3; omega) (by show _ ≤ 40; omega) dX2_init_12 (fun q1 => ?_)
  refine x_putF F hnm inUX2 tyX2_ok nmX2 0 1 ([(h0, .inr (2, [.int (nI 0), .ref q1, .null, .null]))] ++ [(q1, .inl (cA 0, 16, .inl (fun _ => 0)))]) rfl rfl (by decide) wfX2_15 rfl rfl rfl rfl rfl (Nat.le_of_ble_eq_true rfl) rfl dX2_init_14 ?_
  refine x_aload_n F 0 dX2_init_17 rfl ?_
  refine x_bipush F (nI 16) dX2_init_18 (by decide +kernel) ?_
  refine x_newI F (k := 16) wa_int (by omega) (by show _ ≤ 3; omega) (by show _ ≤ 40; omega) dX2_init_20 (fun q2 => ?_)
  refine x_putF F hnm inUX2 tyX2_ok nmX2 0 2 ([(h0, .inr (2, [.int (nI 0), .ref q1, .ref q2, .null]))] ++ [(q1, .inl (cA 0, 16, .inl (fun _ => 0)))] ++ [(q2, .inl (cA 0, 16, .inl (fun _ => 0)))]) rfl rfl (by decide) wfX2_19 rfl rfl rfl rfl rfl (Nat.le_of_ble_eq_true rfl) rfl dX2_init_22 ?_
  refine x_aload_n F 0 dX2_init_25 rfl ?_
  refine x_iload_n F 1 dX2_init_26 rfl ?_
  refine x_newJ F (k := L) wa_long (by omega) (by show _ ≤ 3; omega) (by show _ ≤ 40; omega) dX2_init_27 (fun q3 => ?_)
  refine x_putF F hnm inUX2 tyX2_ok nmX2 0 3 ([(h0, .inr (2, [.int (nI 0), .ref q1, .ref q2, .ref q3]))] ++ [(q1, .inl (cA 0, 16, .inl (fun _ => 0)))] ++ [(q2, .inl (cA 0, 16, .inl (fun _ => 0)))] ++ [(q3, .inl (cA 1, L, .inr (.inl (fun _ => 0))))]) rfl rfl (by decide) wfX2_22 rfl rfl rfl rfl rfl (Nat.le_of_ble_eq_true rfl) rfl dX2_init_29 ?_
  exact x_vret F (adM h0 q1 q2 q3) (⟨rfl, rfl⟩) (rfl) (by omega) (by omega) dX2_init_32

set_option maxHeartbeats 4000000 in
set_option maxRecDepth 100000 in
theorem c_X4_emptyPlan (l : Launch) (D : va_G) (cA : Nat → ClassId)   : Cg l D cA yX4_emptyPlan cX4_emptyPlan 1 (some (.array .int)) 1 1 16 ([] : List Value) ([]) (fun (r : Option Value) (u : Nat) => ∃ q, r = some (.ref q) ∧ u = q) (fun u : Nat => [(u, .inl (cA 0, 16, .inl (fl (fun _ => 0) 16 (-1))))]) := by
  refine x_met (by decide +kernel) rfl (Nat.le_of_ble_eq_true rfl) ?_
  intro xp xe xs xm xbl xme xco F hnm
  refine x_lv [] [] rfl ?_
  refine x_bipush F (nI 16) dX4_emptyPlan_0 (by decide +kernel) ?_
  refine x_newI F (k := 16) wa_int (by omega) (by show _ ≤ 1; omega) (by show _ ≤ 16; omega) dX4_emptyPlan_2 (fun q1 => ?_)
  refine x_astore_n F [(0, .ref q1)] dX4_emptyPlan_4 (by decide) rfl ?_
  refine x_aload_n F 0 dX4_emptyPlan_5 rfl ?_
  refine x_iconst F (-1) dX4_emptyPlan_6 (by decide +kernel) ?_
  refine x_callS F [] ([].filterMap (fun i => ([(q1, .inl (cA 0, 16, .inl (fun _ => 0)))] : va_W)[i]?)) [0] [] (c_J7_fill_53178 l D cA q1 16 (fun _ => 0) (-1) (by decide)) mwJ7_fill_53178 wmX4_189 rfl rfl (Nat.le_of_ble_eq_true rfl) ⟨by decide, by decide⟩ ⟨by show _ ≤ 1; omega, by show _ ≤ 16; omega⟩ rfl rfl (by decide) (by decide) (by decide) dX4_emptyPlan_7 (fun r2 u3 hp4 => ?_)
  subst hp4
  refine x_sub ([(q1, .inl (cA 0, 16, .inl (fl (fun _ => 0) 16 (-1))))]) [0] rfl (by decide) ?_
  refine x_aload_n F 0 dX4_emptyPlan_10 rfl ?_
  exact x_aret F (Or.inr ⟨_, rfl⟩) (Or.inr ⟨_, rfl⟩) q1 (⟨_, rfl, rfl⟩) (rfl) (by omega) (by omega) dX4_emptyPlan_11
end
section
section XN
variable {p : Program} {l : Launch} {e : Env} {R : Room} {s : State} {m : MethodId} {args : Array Value} {below : List Frame} {meth : Method} {c : Code} {cells slots : Nat} {Q : State → Prop} {cc : ByteArray} {nL : Nat} {own : String} {ret : Option FieldType} {D : va_G} {cA : Nat → ClassId} {A : Nat → Prop} {pc : Nat} {lv : List (Nat × Value)} {st : List Value} {ws : va_W}
theorem x_aload_nN (F : Fx p m c cc nL s args own meth ret D cA A) {i : Fin 4} (j : Nat) (d : decode cc pc = .ok (.aload_n i, 1)) (hl0 : lv[j]? = some ((i : Nat), .null)) (k : Wx p l e R s m args below meth c cells slots Q nL D A (pc + 1) lv (.null :: st) ws) : Wx p l e R s m args below meth c cells slots Q nL D A pc lv st ws := fun H locs ls hP hD hS hl => lv_aload_nN F.1.1 F.1.2.1 d rfl (lv_at hl j hl0) (k H locs ls hP hD hS hl)
theorem x_aloadN (F : Fx p m c cc nL s args own meth ret D cA A) {i : Nat} (j : Nat) (d : decode cc pc = .ok (.aload i, 2)) (hl0 : lv[j]? = some (i, .null)) (k : Wx p l e R s m args below meth c cells slots Q nL D A (pc + 2) lv (.null :: st) ws) : Wx p l e R s m args below meth c cells slots Q nL D A pc lv st ws := fun H locs ls hP hD hS hl => lv_aloadN F.1.1 F.1.2.1 d (lv_at hl j hl0) (k H locs ls hP hD hS hl)
theorem x_astore_nN (F : Fx p m c cc nL s args own meth ret D cA A) {i : Fin 4} (lv' : List (Nat × Value)) (d : decode cc pc = .ok (.astore_n i, 1)) (hn : (i : Nat) < nL) (hl' : ((i : Nat), Value.null) :: lv.filter (fun q => !(q.1 == (i : Nat)) && !(q.1 + 1 == (i : Nat) && q.2.category == 2)) = lv') (k : Wx p l e R s m args below meth c cells slots Q nL D A (pc + 1) lv' st ws) : Wx p l e R s m args below meth c cells slots Q nL D A pc lv (.null :: st) ws := fun H locs ls hP hD hS hl => lv_astore_nN F.1.1 F.1.2.1 d rfl hl hn hl' (fun ls' hl2 => k H locs ls' hP hD hS hl2)
theorem x_astoreN (F : Fx p m c cc nL s args own meth ret D cA A) {i : Nat} (lv' : List (Nat × Value)) (d : decode cc pc = .ok (.astore i, 2)) (hn : i < nL) (hl' : (i, Value.null) :: lv.filter (fun q => !(q.1 == i) && !(q.1 + 1 == i && q.2.category == 2)) = lv') (k : Wx p l e R s m args below meth c cells slots Q nL D A (pc + 2) lv' st ws) : Wx p l e R s m args below meth c cells slots Q nL D A pc lv (.null :: st) ws := fun H locs ls hP hD hS hl => lv_astoreN F.1.1 F.1.2.1 d hl hn hl' (fun ls' hl2 => k H locs ls' hP hD hS hl2)
end XN
end
section
/-! THE REFERENCE, as a table M: rows 0 changes, 1..5 the log, 6 isThere, 7 length, 8 weight, 9 wish, 10 lockedTo, 11 apartOf (16 to a set of facts), 12 roomSize (6), 13 came, 14 rooms (16 to a plan), 15 hard, 16 soft, 17 solves, 18 taken .. 29 -/
def logR (M : Nat → Nat → Int32) : Nat → Nat → Int32 := fun k i => M (k + 1) i
/-- the facts f of it, in the class's rows -/
def slc (f : Nat) (M : Nat → Nat → Int32) : Nat → Nat → Int32 := fun k j => if k = 8 then M 12 (6 * f + j) else M (k + 4) (16 * f + j)
def fgI (M : Nat → Nat → Int32) (f n : Nat) : Nat → Nat → Int32 := fun k j => if (k = 6 ∨ k = 11) ∧ 16 * f ≤ j ∧ j < 16 * f + n then nI 0 else if k = 10 ∧ 16 * f ≤ j ∧ j < 16 * f + n then (-2) else M k j
def fgS (M : Nat → Nat → Int32) (f n : Nat) : Nat → Nat → Int32 := fun k j => if k = 12 ∧ 6 * f ≤ j ∧ j < 6 * f + n then nI 100 else fgI M f 16 k j
theorem fgI_0 (M : Nat → Nat → Int32) (f : Nat) : fgI M f 0 = M := by
  funext k j; unfold fgI; rw [if_neg (by omega), if_neg (by omega)]
theorem fgI_s (M : Nat → Nat → Int32) (f n : Nat) : st2 (st2 (st2 (fgI M f n) 6 (16 * f + n) (nI 0)) 10 (16 * f + n) (-2)) 11 (16 * f + n) (nI 0) = fgI M f (n + 1) := by
  funext k j; simp only [fgI, st2_at]; repeat' split
  all_goals first | rfl | (exfalso; omega)
theorem fgS_0 (M : Nat → Nat → Int32) (f : Nat) : fgS M f 0 = fgI M f 16 := by
  funext k j; unfold fgS; rw [if_neg (by omega)]
theorem fgS_s (M : Nat → Nat → Int32) (f n : Nat) : st2 (fgS M f n) 12 (6 * f + n) (nI 100) = fgS M f (n + 1) := by
  funext k j; simp only [fgS, st2_at]; repeat' split
  all_goals first | rfl | (exfalso; omega)
def tellR (M : Nat → Nat → Int32) (j i : Nat) : Nat → Nat → Int32 := st2 (st2 (st2 M 7 j (M 3 i)) 8 j (M 4 i)) 9 j (M 5 i)
def lvB (M : Nat → Nat → Int32) (f w : Nat) : Nat → Nat → Int32 := st2 (st2 (st2 M 6 (16 * f + w) (nI 0)) 10 (16 * f + w) (-2)) 11 (16 * f + w) (nI 0)
def lvR (M : Nat → Nat → Int32) (f w n : Nat) : Nat → Nat → Int32 := fun k j => if k = 11 ∧ 16 * f ≤ j ∧ j < 16 * f + n then lvB M f w k j &&& (bitm w ^^^ (-1)) else lvB M f w k j
theorem lvR_0 (M : Nat → Nat → Int32) (f w : Nat) : lvR M f w 0 = lvB M f w := by
  funext k j; unfold lvR; rw [if_neg (by omega)]
theorem lvR_s (M : Nat → Nat → Int32) (f w n : Nat) : st2 (lvR M f w n) 11 (16 * f + n) (lvR M f w n 11 (16 * f + n) &&& (bitm w ^^^ (-1))) = lvR M f w (n + 1) := by
  funext k j; rw [st2_at]
  by_cases h : k = 11 ∧ j = 16 * f + n
  · obtain ⟨rfl, rfl⟩ := h
    unfold lvR
    rw [if_pos ⟨rfl, rfl⟩, if_neg (by omega), if_pos (by omega)]
  · rw [if_neg h]; unfold lvR
    by_cases h2 : k = 11 ∧ 16 * f ≤ j ∧ j < 16 * f + n
    · rw [if_pos h2, if_pos (by omega)]
    · rw [if_neg h2, if_neg (by omega)]
theorem lvR_o (M : Nat → Nat → Int32) (f w n k : Nat) (h : k ≠ 11) : lvR M f w n k = lvB M f w k := by
  funext j; unfold lvR; rw [if_neg (fun z => h z.1)]
def prtR (M : Nat → Nat → Int32) (f a b : Nat) : Nat → Nat → Int32 := st2 (st2 M 11 (16 * f + a) (M 11 (16 * f + a) ||| bitm b)) 11 (16 * f + b) (st2 M 11 (16 * f + a) (M 11 (16 * f + a) ||| bitm b) 11 (16 * f + b) ||| bitm a)
def unpR (M : Nat → Nat → Int32) (f a b : Nat) : Nat → Nat → Int32 := st2 (st2 M 11 (16 * f + a) (M 11 (16 * f + a) &&& (bitm b ^^^ (-1)))) 11 (16 * f + b) (st2 M 11 (16 * f + a) (M 11 (16 * f + a) &&& (bitm b ^^^ (-1))) 11 (16 * f + b) &&& (bitm a ^^^ (-1)))
/-- apply(f, i) -/
def apR (M : Nat → Nat → Int32) (f i : Nat) : Nat → Nat → Int32 :=
  if M 1 i = nI 0 then tellR (st2 M 6 (16 * f + (M 2 i).toNatClampNeg) (nI 1)) (16 * f + (M 2 i).toNatClampNeg) i
  else if M 1 i = nI 1 then lvR M f (M 2 i).toNatClampNeg 16
  else if M 1 i = nI 2 then tellR M (16 * f + (M 2 i).toNatClampNeg) i
  else if M 1 i = nI 3 then st2 M 12 (6 * f + (M 2 i).toNatClampNeg) (M 3 i)
  else if M 1 i = nI 4 then prtR M f (M 2 i).toNatClampNeg (M 3 i).toNatClampNeg
  else if M 1 i = nI 5 then unpR M f (M 2 i).toNatClampNeg (M 3 i).toNatClampNeg
  else if M 1 i = nI 6 then st2 M 10 (16 * f + (M 2 i).toNatClampNeg) (M 3 i)
  else st2 M 10 (16 * f + (M 2 i).toNatClampNeg) (-2)
/-- which rows apply leaves -/
theorem apR_o (M : Nat → Nat → Int32) (f i k : Nat) (h : k < 6 ∨ 12 < k) : apR M f i k = M k := by
  unfold apR
  repeat' split
  all_goals first
    | (funext j; simp only [tellR, prtR, unpR, st2_at]; repeat' split) <;> first | rfl | (exfalso; omega)
    | (rw [lvR_o _ _ _ _ _ (by omega)]; funext j; simp only [lvB, st2_at]; repeat' split) <;> first | rfl | (exfalso; omega)
def itR (f : Nat) : Nat → (Nat → Nat → Int32) → (Nat → Nat → Int32)
  | 0, M => M
  | n + 1, M => apR (itR f n M) f n
theorem itR_o (f n : Nat) (M : Nat → Nat → Int32) (k : Nat) (h : k < 6 ∨ 12 < k) : itR f n M k = M k := by
  induction n with
  | zero => rfl
  | succ n ih => show apR (itR f n M) f n k = M k; rw [apR_o _ _ _ _ h, ih]
theorem wfE_log {M N : Nat → Nat → Int32} (h : ∀ k, k < 6 → N k = M k) {i : Nat} (hw : wfE (logR M) i) : wfE (logR N) i := by
  have e : ∀ k, k < 5 → logR N k i = logR M k i := fun k hk => congrFun (h (k + 1) (by omega)) i
  unfold wfE at hw ⊢
  rw [e 0 (by decide), e 1 (by decide), e 2 (by decide), e 3 (by decide), e 4 (by decide)]
  exact hw
theorem fgS_o (M : Nat → Nat → Int32) (f n k : Nat) (h : k < 6 ∨ 12 < k) : fgS M f n k = M k := by
  funext j; unfold fgS fgI; rw [if_neg (by omega), if_neg (by omega), if_neg (by omega)]
/-- the facts f made anew out of n changes -/
def mkR (M : Nat → Nat → Int32) (f n : Nat) : Nat → Nat → Int32 := itR f n (fgS M f 6)
theorem mkR_o (M : Nat → Nat → Int32) (f n k : Nat) (h : k < 6 ∨ 12 < k) : mkR M f n k = M k := by
  unfold mkR; rw [itR_o _ _ _ _ h, fgS_o _ _ _ _ h]
/-- a change is entered in the log -/
def enR (M : Nat → Nat → Int32) (n : Nat) (a b c d e : Int32) : Nat → Nat → Int32 := st2 (st2 (st2 (st2 (st2 (st2 M 1 n a) 2 n b) 3 n c) 4 n d) 5 n e) 0 0 (nI (n + 1))
def cpR (M : Nat → Nat → Int32) (a b n : Nat) : Nat → Nat → Int32 := fun k j => if k = 14 ∧ 16 * b ≤ j ∧ j < 16 * b + n then M 14 (16 * a + (j - 16 * b)) else M k j
theorem cpR_0 (M : Nat → Nat → Int32) (a b : Nat) : cpR M a b 0 = M := by
  funext k j; unfold cpR; rw [if_neg (by omega)]
theorem cpR_s (M : Nat → Nat → Int32) (a b n : Nat) (hn : n < 16) : st2 (cpR M a b n) 14 (16 * b + n) (cpR M a b n 14 (16 * a + n)) = cpR M a b (n + 1) := by
  have e : cpR M a b n 14 (16 * a + n) = M 14 (16 * a + n) := by
    unfold cpR
    by_cases h : a = b
    · subst h; rw [if_neg (by omega)]
    · rw [if_neg (by omega)]
  rw [e]
  funext k j; rw [st2_at]
  by_cases h : k = 14 ∧ j = 16 * b + n
  · obtain ⟨rfl, rfl⟩ := h
    unfold cpR
    rw [if_pos ⟨rfl, rfl⟩, if_pos (by omega), show 16 * b + n - 16 * b = n by omega]
  · rw [if_neg h]; unfold cpR
    by_cases h2 : k = 14 ∧ 16 * b ≤ j ∧ j < 16 * b + n
    · rw [if_pos h2, if_pos (by omega)]
    · rw [if_neg h2, if_neg (by omega)]
/-- the room of job j in a plan, by the facts own -/
def rmO (M : Nat → Nat → Int32) (plan own j : Nat) : Int32 := if M 6 (16 * own + j) = 0 then (-1) else M 14 (16 * plan + j)
end
section
/-! the reference: facts, log, plans -/
set_option maxHeartbeats 4000000 in
set_option maxRecDepth 100000 in
theorem c_X5_forget (l : Launch) (D : va_G) (cA : Nat → ClassId) (ar : Nat → Nat) (M : Nat → Nat → Int32) (f : Nat) (hf : f < 5) : Cg l D cA yX5_forget cX5_forget 3 none 0 0 0 ([.ref (ar 100), .int (nI f)] : List Value) (wR cA ar M) (fun (r : Option Value) (u : Nat → Nat → Int32) => r = none ∧ u = fgS M f 6) (fun u : Nat → Nat → Int32 => wR cA ar u) := by
  refine x_met (by decide +kernel) rfl (Nat.le_of_ble_eq_true rfl) ?_
  intro xp xe xs xm xbl xme xco F hnm
  refine x_lv [(0, .ref (ar 100)), (1, .int (nI f))] [0, 1] rfl ?_
  refine x_iconst F (nI 0) dX5_forget_0 (by decide +kernel) ?_
  refine x_istore_n F [(2, .int (nI 0)), (0, .ref (ar 100)), (1, .int (nI f))] dX5_forget_1 (by decide) rfl ?_
  refine x_ws (wR cA ar (fgI M f 0)) (by rw [fgI_0]) ?_
  refine x_lv [(0, .ref (ar 100)), (1, .int (nI f)), (2, .int (nI 0))] [1, 2, 0] rfl ?_
  have loop2 : ∀ (nn2 : Nat) (i : Nat), (i ≤ 16) → (16 - i < nn2) → Wx xp l xe (rmL 0 0 0) xs xm ([.ref (ar 100), .int (nI f)] : List Value).toArray xbl xme xco 0 0 (xQ xbl D (wR cA ar M) xs ([.ref (ar 100), .int (nI f)] : List Value).toArray 0 0 (fun (r : Option Value) (u : Nat → Nat → Int32) => r = none ∧ u = fgS M f 6) (fun u : Nat → Nat → Int32 => wR cA ar u)) 3 D (va_A (wR cA ar M) xs.heap.size) 2 [(0, .ref (ar 100)), (1, .int (nI f)), (2, .int (nI i))] [] (wR cA ar (fgI M f i)) := by
    intro nn2
    induction nn2 with
    | zero =>
      intro i hi hm2
      exact absurd hm2 (Nat.not_lt_zero _)
    | succ nn2 ih2 =>
      intro i hi hm2
      refine x_iload_n F 2 dX5_forget_2 rfl ?_
      refine x_bipush F (nI 16) dX5_forget_3 (by decide +kernel) ?_
      refine x_icmp_ge F 51 dX5_forget_5 (by decide) (fun h5 => ?_) (fun h5 => ?_)
      · have h5n : 16 ≤ i := (nI_leI (by decide) (by omega)).mp h5
        obtain rfl : 16 = i := by omega
        refine x_iconst F (nI 0) dX5_forget_51 (by decide +kernel) ?_
        refine x_istore_n F [(2, .int (nI 0)), (0, .ref (ar 100)), (1, .int (nI f))] dX5_forget_52 (by decide) rfl ?_
        rw [← fgS_0]
        refine x_lv [(0, .ref (ar 100)), (1, .int (nI f)), (2, .int (nI 0))] [1, 2, 0] rfl ?_
        have loop53 : ∀ (nn53 : Nat) (x : Nat), (x ≤ 6) → (6 - x < nn53) → Wx xp l xe (rmL 0 0 0) xs xm ([.ref (ar 100), .int (nI f)] : List Value).toArray xbl xme xco 0 0 (xQ xbl D (wR cA ar M) xs ([.ref (ar 100), .int (nI f)] : List Value).toArray 0 0 (fun (r : Option Value) (u : Nat → Nat → Int32) => r = none ∧ u = fgS M f 6) (fun u : Nat → Nat → Int32 => wR cA ar u)) 3 D (va_A (wR cA ar M) xs.heap.size) 53 [(0, .ref (ar 100)), (1, .int (nI f)), (2, .int (nI x))] [] (wR cA ar (fgS M f x)) := by
          intro nn53
          induction nn53 with
          | zero =>
            intro x hx hm53
            exact absurd hm53 (Nat.not_lt_zero _)
          | succ nn53 ih53 =>
            intro x hx hm53
            refine x_iload_n F 2 dX5_forget_53 rfl ?_
            refine x_bipush F (nI 6) dX5_forget_54 (by decide +kernel) ?_
            refine x_icmp_ge F 78 dX5_forget_56 (by decide) (fun h56 => ?_) (fun h56 => ?_)
            · have h56n : 6 ≤ x := (nI_leI (by decide) (by omega)).mp h56
              obtain rfl : 6 = x := by omega
              exact x_vret F (fgS M f 6) (⟨rfl, rfl⟩) (rfl) (by omega) (by omega) dX5_forget_78
            · have h56n : ¬ 6 ≤ x := fun z => h56 ((nI_leI (by decide) (by omega)).mpr z)
              refine x_aload_n F 0 dX5_forget_59 rfl ?_
              refine x_get F inUX5 0 12 rfl rfl (by decide) wfX5_44 rfl dX5_forget_60 ?_
              refine x_bipush F (nI 6) dX5_forget_63 (by decide +kernel) ?_
              refine x_iload_n F 1 dX5_forget_65 rfl ?_
              refine x_imul F (nI (6 * f)) dX5_forget_66 (pk_mul _ _) ?_
              refine x_iload_n F 2 dX5_forget_67 rfl ?_
              refine x_iadd F (nI ((6 * f) + x)) dX5_forget_68 (nI_add _ _) ?_
              refine x_bipush F (nI 100) dX5_forget_69 (by decide +kernel) ?_
              refine x_iast F 12 (k := (6 * f) + x) (wR cA ar (st2 (fgS M f x) 12 ((6 * f) + x) (nI 100))) rfl (by omega) (by decide) rfl dX5_forget_71 ?_
              refine x_iinc F (nI (x + 1)) 2 [(2, .int (nI (x + 1))), (0, .ref (ar 100)), (1, .int (nI f))] dX5_forget_72 rfl ((nI_add x 1)) (by decide) rfl ?_
              refine x_goto F 53 dX5_forget_75 (by decide) ?_
              rw [fgS_s]
              refine x_lv [(0, .ref (ar 100)), (1, .int (nI f)), (2, .int (nI (x + 1)))] [1, 2, 0] rfl ?_
              exact ih53 (x + 1) (by omega) (by omega)
        exact loop53 _ 0 (Nat.zero_le _) (Nat.lt_succ_self _)
      · have h5n : ¬ 16 ≤ i := fun z => h5 ((nI_leI (by decide) (by omega)).mpr z)
        refine x_aload_n F 0 dX5_forget_8 rfl ?_
        refine x_get F inUX5 0 6 rfl rfl (by decide) wfX5_25 rfl dX5_forget_9 ?_
        refine x_bipush F (nI 16) dX5_forget_12 (by decide +kernel) ?_
        refine x_iload_n F 1 dX5_forget_14 rfl ?_
        refine x_imul F (nI (16 * f)) dX5_forget_15 (pk_mul _ _) ?_
        refine x_iload_n F 2 dX5_forget_16 rfl ?_
        refine x_iadd F (nI ((16 * f) + i)) dX5_forget_17 (nI_add _ _) ?_
        refine x_iconst F (nI 0) dX5_forget_18 (by decide +kernel) ?_
        refine x_zast F 6 (k := (16 * f) + i) (wR cA ar (st2 (fgI M f i) 6 ((16 * f) + i) (nI 0))) rfl (by omega) (by decide) (by decide +kernel) rfl dX5_forget_19 ?_
        refine x_aload_n F 0 dX5_forget_20 rfl ?_
        refine x_get F inUX5 0 10 rfl rfl (by decide) wfX5_38 rfl dX5_forget_21 ?_
        refine x_bipush F (nI 16) dX5_forget_24 (by decide +kernel) ?_
        refine x_iload_n F 1 dX5_forget_26 rfl ?_
        refine x_imul F (nI (16 * f)) dX5_forget_27 (pk_mul _ _) ?_
        refine x_iload_n F 2 dX5_forget_28 rfl ?_
        refine x_iadd F (nI ((16 * f) + i)) dX5_forget_29 (nI_add _ _) ?_
        refine x_bipush F (-2) dX5_forget_30 (by decide +kernel) ?_
        refine x_iast F 10 (k := (16 * f) + i) (wR cA ar (st2 (st2 (fgI M f i) 6 ((16 * f) + i) (nI 0)) 10 ((16 * f) + i) (-2))) rfl (by omega) (by decide) rfl dX5_forget_32 ?_
        refine x_aload_n F 0 dX5_forget_33 rfl ?_
        refine x_get F inUX5 0 11 rfl rfl (by decide) wfX5_41 rfl dX5_forget_34 ?_
        refine x_bipush F (nI 16) dX5_forget_37 (by decide +kernel) ?_
        refine x_iload_n F 1 dX5_forget_39 rfl ?_
        refine x_imul F (nI (16 * f)) dX5_forget_40 (pk_mul _ _) ?_
        refine x_iload_n F 2 dX5_forget_41 rfl ?_
        refine x_iadd F (nI ((16 * f) + i)) dX5_forget_42 (nI_add _ _) ?_
        refine x_iconst F (nI 0) dX5_forget_43 (by decide +kernel) ?_
        refine x_iast F 11 (k := (16 * f) + i) (wR cA ar (st2 (st2 (st2 (fgI M f i) 6 ((16 * f) + i) (nI 0)) 10 ((16 * f) + i) (-2)) 11 ((16 * f) + i) (nI 0))) rfl (by omega) (by decide) rfl dX5_forget_44 ?_
        refine x_iinc F (nI (i + 1)) 2 [(2, .int (nI (i + 1))), (0, .ref (ar 100)), (1, .int (nI f))] dX5_forget_45 rfl ((nI_add i 1)) (by decide) rfl ?_
        refine x_goto F 2 dX5_forget_48 (by decide) ?_
        rw [fgI_s]
        refine x_lv [(0, .ref (ar 100)), (1, .int (nI f)), (2, .int (nI (i + 1)))] [1, 2, 0] rfl ?_
        exact ih2 (i + 1) (by omega) (by omega)
  exact loop2 _ 0 (Nat.zero_le _) (Nat.lt_succ_self _)

set_option maxHeartbeats 4000000 in
set_option maxRecDepth 100000 in
theorem c_X5_tell (l : Launch) (D : va_G) (cA : Nat → ClassId) (ar : Nat → Nat) (M : Nat → Nat → Int32) (j i : Nat) (hj : j < 80) (hi : i < 120) : Cg l D cA yX5_tell cX5_tell 3 none 0 0 0 ([.ref (ar 100), .int (nI j), .int (nI i)] : List Value) (wR cA ar M) (fun (r : Option Value) (u : Nat → Nat → Int32) => r = none ∧ u = tellR M j i) (fun u : Nat → Nat → Int32 => wR cA ar u) := by
  refine x_met (by decide +kernel) rfl (Nat.le_of_ble_eq_true rfl) ?_
  intro xp xe xs xm xbl xme xco F hnm
  refine x_lv [(0, .ref (ar 100)), (1, .int (nI j)), (2, .int (nI i))] [0, 1, 2] rfl ?_
  refine x_aload_n F 0 dX5_tell_0 rfl ?_
  refine x_get F inUX5 0 7 rfl rfl (by decide) wfX5_29 rfl dX5_tell_1 ?_
  refine x_iload_n F 1 dX5_tell_4 rfl ?_
  refine x_aload_n F 0 dX5_tell_5 rfl ?_
  refine x_get F inUX5 0 3 rfl rfl (by decide) wfX5_16 rfl dX5_tell_6 ?_
  refine x_iload_n F 2 dX5_tell_9 rfl ?_
  refine x_iald F 3 (k := i) rfl (by omega) (by decide) dX5_tell_10 ?_
  refine x_iast F 7 (k := j) (wR cA ar (st2 M 7 j (M 3 i))) rfl (by omega) (by decide) rfl dX5_tell_11 ?_
  refine x_aload_n F 0 dX5_tell_12 rfl ?_
  refine x_get F inUX5 0 8 rfl rfl (by decide) wfX5_32 rfl dX5_tell_13 ?_
  refine x_iload_n F 1 dX5_tell_16 rfl ?_
  refine x_aload_n F 0 dX5_tell_17 rfl ?_
  refine x_get F inUX5 0 4 rfl rfl (by decide) wfX5_19 rfl dX5_tell_18 ?_
  refine x_iload_n F 2 dX5_tell_21 rfl ?_
  refine x_iald F 4 (k := i) rfl (by omega) (by decide) dX5_tell_22 ?_
  refine x_iast F 8 (k := j) (wR cA ar (st2 (st2 M 7 j (M 3 i)) 8 j ((st2 M 7 j (M 3 i)) 4 i))) rfl (by omega) (by decide) rfl dX5_tell_23 ?_
  refine x_aload_n F 0 dX5_tell_24 rfl ?_
  refine x_get F inUX5 0 9 rfl rfl (by decide) wfX5_35 rfl dX5_tell_25 ?_
  refine x_iload_n F 1 dX5_tell_28 rfl ?_
  refine x_aload_n F 0 dX5_tell_29 rfl ?_
  refine x_get F inUX5 0 5 rfl rfl (by decide) wfX5_22 rfl dX5_tell_30 ?_
  refine x_iload_n F 2 dX5_tell_33 rfl ?_
  refine x_iald F 5 (k := i) rfl (by omega) (by decide) dX5_tell_34 ?_
  refine x_iast F 9 (k := j) (wR cA ar (st2 (st2 (st2 M 7 j (M 3 i)) 8 j ((st2 M 7 j (M 3 i)) 4 i)) 9 j ((st2 (st2 M 7 j (M 3 i)) 8 j ((st2 M 7 j (M 3 i)) 4 i)) 5 i))) rfl (by omega) (by decide) rfl dX5_tell_35 ?_
  exact x_vret F (tellR M j i) (⟨rfl, rfl⟩) (rfl) (by omega) (by omega) dX5_tell_36

set_option maxHeartbeats 4000000 in
set_option maxRecDepth 100000 in
theorem c_X5_apply (l : Launch) (D : va_G) (cA : Nat → ClassId) (ar : Nat → Nat) (M : Nat → Nat → Int32) (f i : Nat) (hf : f < 5) (hi : i < 120) (hw : wfE (logR M) i) : Cg l D cA yX5_apply cX5_apply 5 none 1 0 0 ([.ref (ar 100), .int (nI f), .int (nI i)] : List Value) (wR cA ar M) (fun (r : Option Value) (u : Nat → Nat → Int32) => r = none ∧ u = apR M f i) (fun u : Nat → Nat → Int32 => wR cA ar u) := by
  refine x_met (by decide +kernel) rfl (Nat.le_of_ble_eq_true rfl) ?_
  intro xp xe xs xm xbl xme xco F hnm
  refine x_lv [(0, .ref (ar 100)), (1, .int (nI f)), (2, .int (nI i))] [0, 1, 2] rfl ?_
  obtain ⟨k, w, hk, ew, hk8, h3, hn3, h45, -, -⟩ := hw
  have hk : M 1 i = nI k := hk
  have ew : M 2 i = nI w := ew
  have hw16 : w < 16 := by
    by_cases h : k = 3
    · have := (h3 h).1; omega
    · exact hn3 h
  have ewc : (M 2 i).toNatClampNeg = w := by rw [ew]; exact nI_clamp (by omega)
  refine x_bipush F (nI 16) dX5_apply_0 (by decide +kernel) ?_
  refine x_iload_n F 1 dX5_apply_2 rfl ?_
  refine x_imul F (nI (16 * f)) dX5_apply_3 (pk_mul _ _) ?_
  refine x_aload_n F 0 dX5_apply_4 rfl ?_
  refine x_get F inUX5 0 2 rfl rfl (by decide) wfX5_13 rfl dX5_apply_5 ?_
  refine x_iload_n F 2 dX5_apply_8 rfl ?_
  refine x_iald F 2 (k := i) rfl (by omega) (by decide) dX5_apply_9 ?_
  refine x_top (nI w) (ew) ?_
  refine x_iadd F (nI ((16 * f) + w)) dX5_apply_10 (nI_add _ _) ?_
  refine x_istore_n F [(3, .int (nI ((16 * f) + w))), (0, .ref (ar 100)), (1, .int (nI f)), (2, .int (nI i))] dX5_apply_11 (by decide) rfl ?_
  refine x_aload_n F 1 dX5_apply_12 rfl ?_
  refine x_get F inUX5 0 1 rfl rfl (by decide) wfX5_7 rfl dX5_apply_13 ?_
  refine x_iload_n F 3 dX5_apply_16 rfl ?_
  refine x_iald F 1 (k := i) rfl (by omega) (by decide) dX5_apply_17 ?_
  rcases (show k = 0 ∨ k = 1 ∨ k = 2 ∨ k = 3 ∨ k = 4 ∨ k = 5 ∨ k = 6 ∨ k = 7 by omega) with rfl | rfl | rfl | rfl | rfl | rfl | rfl | rfl
  · have es : apR M f i = tellR (st2 M 6 (16 * f + w) (nI 1)) (16 * f + w) i := by unfold apR; rw [ewc, hk]; rfl
    refine x_top (nI 0) (hk) ?_
    refine x_tableIn F 60 dX5_apply_18 (by decide +kernel) (by decide +kernel) (off := 42) (by decide +kernel) (by decide) ?_
    refine x_aload_n F 1 dX5_apply_60 rfl ?_
    refine x_get F inUX5 0 6 rfl rfl (by decide) wfX5_25 rfl dX5_apply_61 ?_
    refine x_iload_n F 0 dX5_apply_64 rfl ?_
    refine x_iconst F (nI 1) dX5_apply_65 (by decide +kernel) ?_
    refine x_zast F 6 (k := (16 * f) + w) (wR cA ar (st2 M 6 ((16 * f) + w) (nI 1))) rfl (by omega) (by decide) (by decide +kernel) rfl dX5_apply_66 ?_
    refine x_aload_n F 1 dX5_apply_67 rfl ?_
    refine x_iload_n F 0 dX5_apply_68 rfl ?_
    refine x_iload_n F 3 dX5_apply_69 rfl ?_
    refine x_callV F [] ([]) [0, 1, 2, 3, 4, 5, 6, 7, 8, 9, 10, 11, 12, 13, 14, 15, 16, 17, 18, 19, 20, 21, 22, 23, 24, 25] [] (c_X5_tell l D cA ar (st2 M 6 ((16 * f) + w) (nI 1)) ((16 * f) + w) i (by omega) hi) mwX5_tell wmX5_90 rfl (q0 := 0) rfl rfl rfl (Nat.le_of_ble_eq_true rfl) ⟨by decide, by decide⟩ ⟨by show _ ≤ 0; omega, by show _ ≤ 0; omega⟩ rfl rfl (by decide) (by decide) (by decide) dX5_apply_70 (fun r1 u2 hp3 => ?_)
    obtain ⟨rfl, rfl⟩ := hp3
    refine x_goto F 297 dX5_apply_73 (by decide) ?_
    exact x_vret F (tellR (st2 M 6 ((16 * f) + w) (nI 1)) ((16 * f) + w) i) (⟨rfl, es.symm⟩) (rfl) (by omega) (by omega) dX5_apply_297
  · have es : apR M f i = lvR M f w 16 := by unfold apR; rw [ewc, hk]; rfl
    refine x_top (nI 1) (hk) ?_
    refine x_tableIn F 76 dX5_apply_18 (by decide +kernel) (by decide +kernel) (off := 58) (by decide +kernel) (by decide) ?_
    refine x_aload_n F 1 dX5_apply_76 rfl ?_
    refine x_get F inUX5 0 6 rfl rfl (by decide) wfX5_25 rfl dX5_apply_77 ?_
    refine x_iload_n F 0 dX5_apply_80 rfl ?_
    refine x_iconst F (nI 0) dX5_apply_81 (by decide +kernel) ?_
    refine x_zast F 6 (k := (16 * f) + w) (wR cA ar (st2 M 6 ((16 * f) + w) (nI 0))) rfl (by omega) (by decide) (by decide +kernel) rfl dX5_apply_82 ?_
    refine x_aload_n F 1 dX5_apply_83 rfl ?_
    refine x_get F inUX5 0 10 rfl rfl (by decide) wfX5_38 rfl dX5_apply_84 ?_
    refine x_iload_n F 0 dX5_apply_87 rfl ?_
    refine x_bipush F (-2) dX5_apply_88 (by decide +kernel) ?_
    refine x_iast F 10 (k := (16 * f) + w) (wR cA ar (st2 (st2 M 6 ((16 * f) + w) (nI 0)) 10 ((16 * f) + w) (-2))) rfl (by omega) (by decide) rfl dX5_apply_90 ?_
    refine x_aload_n F 1 dX5_apply_91 rfl ?_
    refine x_get F inUX5 0 11 rfl rfl (by decide) wfX5_41 rfl dX5_apply_92 ?_
    refine x_iload_n F 0 dX5_apply_95 rfl ?_
    refine x_iconst F (nI 0) dX5_apply_96 (by decide +kernel) ?_
    refine x_iast F 11 (k := (16 * f) + w) (wR cA ar (st2 (st2 (st2 M 6 ((16 * f) + w) (nI 0)) 10 ((16 * f) + w) (-2)) 11 ((16 * f) + w) (nI 0))) rfl (by omega) (by decide) rfl dX5_apply_97 ?_
    refine x_iconst F (nI 0) dX5_apply_98 (by decide +kernel) ?_
    refine x_istore F [(4, .int (nI 0)), (3, .int (nI ((16 * f) + w))), (0, .ref (ar 100)), (1, .int (nI f)), (2, .int (nI i))] dX5_apply_99 (by decide) rfl ?_
    refine x_ws (wR cA ar (lvR M f w 0)) (by rw [lvR_0]; rfl) ?_
    refine x_lv [(0, .ref (ar 100)), (1, .int (nI f)), (2, .int (nI i)), (3, .int (nI ((16 * f) + w))), (4, .int (nI 0))] [2, 3, 4, 1, 0] rfl ?_
    have loop101 : ∀ (nn101 : Nat) (x : Nat), (x ≤ 16) → (16 - x < nn101) → Wx xp l xe (rmL 1 0 0) xs xm ([.ref (ar 100), .int (nI f), .int (nI i)] : List Value).toArray xbl xme xco 0 0 (xQ xbl D (wR cA ar M) xs ([.ref (ar 100), .int (nI f), .int (nI i)] : List Value).toArray 0 0 (fun (r : Option Value) (u : Nat → Nat → Int32) => r = none ∧ u = apR M f i) (fun u : Nat → Nat → Int32 => wR cA ar u)) 5 D (va_A (wR cA ar M) xs.heap.size) 101 [(0, .ref (ar 100)), (1, .int (nI f)), (2, .int (nI i)), (3, .int (nI ((16 * f) + w))), (4, .int (nI x))] [] (wR cA ar (lvR M f w x)) := by
      intro nn101
      induction nn101 with
      | zero =>
        intro x hx hm101
        exact absurd hm101 (Nat.not_lt_zero _)
      | succ nn101 ih101 =>
        intro x hx hm101
        refine x_iload F 4 dX5_apply_101 rfl ?_
        refine x_bipush F (nI 16) dX5_apply_103 (by decide +kernel) ?_
        refine x_icmp_ge F 139 dX5_apply_105 (by decide) (fun h105 => ?_) (fun h105 => ?_)
        · have h105n : 16 ≤ x := (nI_leI (by decide) (by omega)).mp h105
          obtain rfl : 16 = x := by omega
          refine x_goto F 297 dX5_apply_139 (by decide) ?_
          exact x_vret F (lvR M f w 16) (⟨rfl, es.symm⟩) (rfl) (by omega) (by omega) dX5_apply_297
        · have h105n : ¬ 16 ≤ x := fun z => h105 ((nI_leI (by decide) (by omega)).mpr z)
          refine x_aload_n F 0 dX5_apply_108 rfl ?_
          refine x_get F inUX5 0 11 rfl rfl (by decide) wfX5_41 rfl dX5_apply_109 ?_
          refine x_bipush F (nI 16) dX5_apply_112 (by decide +kernel) ?_
          refine x_iload_n F 1 dX5_apply_114 rfl ?_
          refine x_imul F (nI (16 * f)) dX5_apply_115 (pk_mul _ _) ?_
          refine x_iload F 4 dX5_apply_116 rfl ?_
          refine x_iadd F (nI ((16 * f) + x)) dX5_apply_118 (nI_add _ _) ?_
          refine x_dup2 F dX5_apply_119 rfl rfl ?_
          refine x_iald F 11 (k := (16 * f) + x) rfl (by omega) (by decide) dX5_apply_120 ?_
          refine x_iconst F (nI 1) dX5_apply_121 (by decide +kernel) ?_
          refine x_aload_n F 0 dX5_apply_122 rfl ?_
          refine x_get F inUX5 0 2 rfl rfl (by decide) wfX5_13 rfl dX5_apply_123 ?_
          refine x_iload_n F 2 dX5_apply_126 rfl ?_
          refine x_iald F 2 (k := i) rfl (by omega) (by decide) dX5_apply_127 ?_
          refine x_top (nI w) (by rw [lvR_o _ _ _ _ _ (by decide)]; exact ew) ?_
          refine x_ishl F ((nI 1) <<< ((nI w) &&& 31)) dX5_apply_128 rfl ?_
          refine x_iconst F (-1) dX5_apply_129 (by decide +kernel) ?_
          refine x_ixor F (((nI 1) <<< ((nI w) &&& 31)) ^^^ (-1)) dX5_apply_130 rfl ?_
          refine x_iand F (((lvR M f w x) 11 ((16 * f) + x)) &&& (((nI 1) <<< ((nI w) &&& 31)) ^^^ (-1))) dX5_apply_131 rfl ?_
          refine x_iast F 11 (k := (16 * f) + x) (wR cA ar (st2 (lvR M f w x) 11 ((16 * f) + x) (((lvR M f w x) 11 ((16 * f) + x)) &&& (((nI 1) <<< ((nI w) &&& 31)) ^^^ (-1))))) rfl (by omega) (by decide) rfl dX5_apply_132 ?_
          refine x_iinc F (nI (x + 1)) 4 [(4, .int (nI (x + 1))), (0, .ref (ar 100)), (1, .int (nI f)), (2, .int (nI i)), (3, .int (nI ((16 * f) + w)))] dX5_apply_133 rfl ((nI_add x 1)) (by decide) rfl ?_
          refine x_goto F 101 dX5_apply_136 (by decide) ?_
          refine x_ws (wR cA ar (lvR M f w (x + 1))) (by rw [← lvR_s]; rfl) ?_
          refine x_lv [(0, .ref (ar 100)), (1, .int (nI f)), (2, .int (nI i)), (3, .int (nI ((16 * f) + w))), (4, .int (nI (x + 1)))] [1, 2, 3, 4, 0] rfl ?_
          exact ih101 (x + 1) (by omega) (by omega)
    exact loop101 _ 0 (Nat.zero_le _) (Nat.lt_succ_self _)
  · have es : apR M f i = tellR M (16 * f + w) i := by unfold apR; rw [ewc, hk]; rfl
    refine x_top (nI 2) (hk) ?_
    refine x_tableIn F 142 dX5_apply_18 (by decide +kernel) (by decide +kernel) (off := 124) (by decide +kernel) (by decide) ?_
    refine x_aload_n F 1 dX5_apply_142 rfl ?_
    refine x_iload_n F 0 dX5_apply_143 rfl ?_
    refine x_iload_n F 3 dX5_apply_144 rfl ?_
    refine x_callV F [] ([]) [0, 1, 2, 3, 4, 5, 6, 7, 8, 9, 10, 11, 12, 13, 14, 15, 16, 17, 18, 19, 20, 21, 22, 23, 24, 25] [] (c_X5_tell l D cA ar M ((16 * f) + w) i (by omega) hi) mwX5_tell wmX5_90 rfl (q0 := 0) rfl rfl rfl (Nat.le_of_ble_eq_true rfl) ⟨by decide, by decide⟩ ⟨by show _ ≤ 0; omega, by show _ ≤ 0; omega⟩ rfl rfl (by decide) (by decide) (by decide) dX5_apply_145 (fun r4 u5 hp6 => ?_)
    obtain ⟨rfl, rfl⟩ := hp6
    refine x_goto F 297 dX5_apply_148 (by decide) ?_
    exact x_vret F (tellR M ((16 * f) + w) i) (⟨rfl, es.symm⟩) (rfl) (by omega) (by omega) dX5_apply_297
  · have hw6 := (h3 rfl).1
    have es : apR M f i = st2 M 12 (6 * f + w) (M 3 i) := by unfold apR; rw [ewc, hk]; rfl
    refine x_top (nI 3) (hk) ?_
    refine x_tableIn F 151 dX5_apply_18 (by decide +kernel) (by decide +kernel) (off := 133) (by decide +kernel) (by decide) ?_
    refine x_aload_n F 1 dX5_apply_151 rfl ?_
    refine x_get F inUX5 0 12 rfl rfl (by decide) wfX5_44 rfl dX5_apply_152 ?_
    refine x_bipush F (nI 6) dX5_apply_155 (by decide +kernel) ?_
    refine x_iload_n F 2 dX5_apply_157 rfl ?_
    refine x_imul F (nI (6 * f)) dX5_apply_158 (pk_mul _ _) ?_
    refine x_aload_n F 1 dX5_apply_159 rfl ?_
    refine x_get F inUX5 0 2 rfl rfl (by decide) wfX5_13 rfl dX5_apply_160 ?_
    refine x_iload_n F 3 dX5_apply_163 rfl ?_
    refine x_iald F 2 (k := i) rfl (by omega) (by decide) dX5_apply_164 ?_
    refine x_top (nI w) (ew) ?_
    refine x_iadd F (nI ((6 * f) + w)) dX5_apply_165 (nI_add _ _) ?_
    refine x_aload_n F 1 dX5_apply_166 rfl ?_
    refine x_get F inUX5 0 3 rfl rfl (by decide) wfX5_16 rfl dX5_apply_167 ?_
    refine x_iload_n F 3 dX5_apply_170 rfl ?_
    refine x_iald F 3 (k := i) rfl (by omega) (by decide) dX5_apply_171 ?_
    refine x_iast F 12 (k := (6 * f) + w) (wR cA ar (st2 M 12 ((6 * f) + w) (M 3 i))) rfl (by omega) (by decide) rfl dX5_apply_172 ?_
    refine x_goto F 297 dX5_apply_173 (by decide) ?_
    exact x_vret F (st2 M 12 ((6 * f) + w) (M 3 i)) (⟨rfl, es.symm⟩) (rfl) (by omega) (by omega) dX5_apply_297
  · obtain ⟨b, hb16, eb⟩ := h45 (by omega)
    have eb : M 3 i = nI b := eb
    have es : apR M f i = prtR M f w b := by unfold apR; rw [ewc, hk]; rw [eb, nI_clamp (by omega)]; rfl
    refine x_top (nI 4) (hk) ?_
    refine x_tableIn F 176 dX5_apply_18 (by decide +kernel) (by decide +kernel) (off := 158) (by decide +kernel) (by decide) ?_
    refine x_aload_n F 1 dX5_apply_176 rfl ?_
    refine x_get F inUX5 0 11 rfl rfl (by decide) wfX5_41 rfl dX5_apply_177 ?_
    refine x_iload_n F 0 dX5_apply_180 rfl ?_
    refine x_dup2 F dX5_apply_181 rfl rfl ?_
    refine x_iald F 11 (k := (16 * f) + w) rfl (by omega) (by decide) dX5_apply_182 ?_
    refine x_iconst F (nI 1) dX5_apply_183 (by decide +kernel) ?_
    refine x_aload_n F 1 dX5_apply_184 rfl ?_
    refine x_get F inUX5 0 3 rfl rfl (by decide) wfX5_16 rfl dX5_apply_185 ?_
    refine x_iload_n F 3 dX5_apply_188 rfl ?_
    refine x_iald F 3 (k := i) rfl (by omega) (by decide) dX5_apply_189 ?_
    refine x_top (nI b) (eb) ?_
    refine x_ishl F ((nI 1) <<< ((nI b) &&& 31)) dX5_apply_190 rfl ?_
    refine x_ior F ((M 11 ((16 * f) + w)) ||| ((nI 1) <<< ((nI b) &&& 31))) dX5_apply_191 rfl ?_
    refine x_iast F 11 (k := (16 * f) + w) (wR cA ar (st2 M 11 ((16 * f) + w) ((M 11 ((16 * f) + w)) ||| ((nI 1) <<< ((nI b) &&& 31))))) rfl (by omega) (by decide) rfl dX5_apply_192 ?_
    refine x_aload_n F 1 dX5_apply_193 rfl ?_
    refine x_get F inUX5 0 11 rfl rfl (by decide) wfX5_41 rfl dX5_apply_194 ?_
    refine x_bipush F (nI 16) dX5_apply_197 (by decide +kernel) ?_
    refine x_iload_n F 2 dX5_apply_199 rfl ?_
    refine x_imul F (nI (16 * f)) dX5_apply_200 (pk_mul _ _) ?_
    refine x_aload_n F 1 dX5_apply_201 rfl ?_
    refine x_get F inUX5 0 3 rfl rfl (by decide) wfX5_16 rfl dX5_apply_202 ?_
    refine x_iload_n F 3 dX5_apply_205 rfl ?_
    refine x_iald F 3 (k := i) rfl (by omega) (by decide) dX5_apply_206 ?_
    refine x_top (nI b) (eb) ?_
    refine x_iadd F (nI ((16 * f) + b)) dX5_apply_207 (nI_add _ _) ?_
    refine x_dup2 F dX5_apply_208 rfl rfl ?_
    refine x_iald F 11 (k := (16 * f) + b) rfl (by omega) (by decide) dX5_apply_209 ?_
    refine x_iconst F (nI 1) dX5_apply_210 (by decide +kernel) ?_
    refine x_aload_n F 1 dX5_apply_211 rfl ?_
    refine x_get F inUX5 0 2 rfl rfl (by decide) wfX5_13 rfl dX5_apply_212 ?_
    refine x_iload_n F 3 dX5_apply_215 rfl ?_
    refine x_iald F 2 (k := i) rfl (by omega) (by decide) dX5_apply_216 ?_
    refine x_top (nI w) (ew) ?_
    refine x_ishl F ((nI 1) <<< ((nI w) &&& 31)) dX5_apply_217 rfl ?_
    refine x_ior F (((st2 M 11 ((16 * f) + w) ((M 11 ((16 * f) + w)) ||| ((nI 1) <<< ((nI b) &&& 31)))) 11 ((16 * f) + b)) ||| ((nI 1) <<< ((nI w) &&& 31))) dX5_apply_218 rfl ?_
    refine x_iast F 11 (k := (16 * f) + b) (wR cA ar (st2 (st2 M 11 ((16 * f) + w) ((M 11 ((16 * f) + w)) ||| ((nI 1) <<< ((nI b) &&& 31)))) 11 ((16 * f) + b) (((st2 M 11 ((16 * f) + w) ((M 11 ((16 * f) + w)) ||| ((nI 1) <<< ((nI b) &&& 31)))) 11 ((16 * f) + b)) ||| ((nI 1) <<< ((nI w) &&& 31))))) rfl (by omega) (by decide) rfl dX5_apply_219 ?_
    refine x_goto F 297 dX5_apply_220 (by decide) ?_
    exact x_vret F (st2 (st2 M 11 ((16 * f) + w) ((M 11 ((16 * f) + w)) ||| ((nI 1) <<< ((nI b) &&& 31)))) 11 ((16 * f) + b) (((st2 M 11 ((16 * f) + w) ((M 11 ((16 * f) + w)) ||| ((nI 1) <<< ((nI b) &&& 31)))) 11 ((16 * f) + b)) ||| ((nI 1) <<< ((nI w) &&& 31)))) (⟨rfl, es.symm⟩) (rfl) (by omega) (by omega) dX5_apply_297
  · obtain ⟨b, hb16, eb⟩ := h45 (by omega)
    have eb : M 3 i = nI b := eb
    have es : apR M f i = unpR M f w b := by unfold apR; rw [ewc, hk]; rw [eb, nI_clamp (by omega)]; rfl
    refine x_top (nI 5) (hk) ?_
    refine x_tableIn F 223 dX5_apply_18 (by decide +kernel) (by decide +kernel) (off := 205) (by decide +kernel) (by decide) ?_
    refine x_aload_n F 1 dX5_apply_223 rfl ?_
    refine x_get F inUX5 0 11 rfl rfl (by decide) wfX5_41 rfl dX5_apply_224 ?_
    refine x_iload_n F 0 dX5_apply_227 rfl ?_
    refine x_dup2 F dX5_apply_228 rfl rfl ?_
    refine x_iald F 11 (k := (16 * f) + w) rfl (by omega) (by decide) dX5_apply_229 ?_
    refine x_iconst F (nI 1) dX5_apply_230 (by decide +kernel) ?_
    refine x_aload_n F 1 dX5_apply_231 rfl ?_
    refine x_get F inUX5 0 3 rfl rfl (by decide) wfX5_16 rfl dX5_apply_232 ?_
    refine x_iload_n F 3 dX5_apply_235 rfl ?_
    refine x_iald F 3 (k := i) rfl (by omega) (by decide) dX5_apply_236 ?_
    refine x_top (nI b) (eb) ?_
    refine x_ishl F ((nI 1) <<< ((nI b) &&& 31)) dX5_apply_237 rfl ?_
    refine x_iconst F (-1) dX5_apply_238 (by decide +kernel) ?_
    refine x_ixor F (((nI 1) <<< ((nI b) &&& 31)) ^^^ (-1)) dX5_apply_239 rfl ?_
    refine x_iand F ((M 11 ((16 * f) + w)) &&& (((nI 1) <<< ((nI b) &&& 31)) ^^^ (-1))) dX5_apply_240 rfl ?_
    refine x_iast F 11 (k := (16 * f) + w) (wR cA ar (st2 M 11 ((16 * f) + w) ((M 11 ((16 * f) + w)) &&& (((nI 1) <<< ((nI b) &&& 31)) ^^^ (-1))))) rfl (by omega) (by decide) rfl dX5_apply_241 ?_
    refine x_aload_n F 1 dX5_apply_242 rfl ?_
    refine x_get F inUX5 0 11 rfl rfl (by decide) wfX5_41 rfl dX5_apply_243 ?_
    refine x_bipush F (nI 16) dX5_apply_246 (by decide +kernel) ?_
    refine x_iload_n F 2 dX5_apply_248 rfl ?_
    refine x_imul F (nI (16 * f)) dX5_apply_249 (pk_mul _ _) ?_
    refine x_aload_n F 1 dX5_apply_250 rfl ?_
    refine x_get F inUX5 0 3 rfl rfl (by decide) wfX5_16 rfl dX5_apply_251 ?_
    refine x_iload_n F 3 dX5_apply_254 rfl ?_
    refine x_iald F 3 (k := i) rfl (by omega) (by decide) dX5_apply_255 ?_
    refine x_top (nI b) (eb) ?_
    refine x_iadd F (nI ((16 * f) + b)) dX5_apply_256 (nI_add _ _) ?_
    refine x_dup2 F dX5_apply_257 rfl rfl ?_
    refine x_iald F 11 (k := (16 * f) + b) rfl (by omega) (by decide) dX5_apply_258 ?_
    refine x_iconst F (nI 1) dX5_apply_259 (by decide +kernel) ?_
    refine x_aload_n F 1 dX5_apply_260 rfl ?_
    refine x_get F inUX5 0 2 rfl rfl (by decide) wfX5_13 rfl dX5_apply_261 ?_
    refine x_iload_n F 3 dX5_apply_264 rfl ?_
    refine x_iald F 2 (k := i) rfl (by omega) (by decide) dX5_apply_265 ?_
    refine x_top (nI w) (ew) ?_
    refine x_ishl F ((nI 1) <<< ((nI w) &&& 31)) dX5_apply_266 rfl ?_
    refine x_iconst F (-1) dX5_apply_267 (by decide +kernel) ?_
    refine x_ixor F (((nI 1) <<< ((nI w) &&& 31)) ^^^ (-1)) dX5_apply_268 rfl ?_
    refine x_iand F (((st2 M 11 ((16 * f) + w) ((M 11 ((16 * f) + w)) &&& (((nI 1) <<< ((nI b) &&& 31)) ^^^ (-1)))) 11 ((16 * f) + b)) &&& (((nI 1) <<< ((nI w) &&& 31)) ^^^ (-1))) dX5_apply_269 rfl ?_
    refine x_iast F 11 (k := (16 * f) + b) (wR cA ar (st2 (st2 M 11 ((16 * f) + w) ((M 11 ((16 * f) + w)) &&& (((nI 1) <<< ((nI b) &&& 31)) ^^^ (-1)))) 11 ((16 * f) + b) (((st2 M 11 ((16 * f) + w) ((M 11 ((16 * f) + w)) &&& (((nI 1) <<< ((nI b) &&& 31)) ^^^ (-1)))) 11 ((16 * f) + b)) &&& (((nI 1) <<< ((nI w) &&& 31)) ^^^ (-1))))) rfl (by omega) (by decide) rfl dX5_apply_270 ?_
    refine x_goto F 297 dX5_apply_271 (by decide) ?_
    exact x_vret F (st2 (st2 M 11 ((16 * f) + w) ((M 11 ((16 * f) + w)) &&& (((nI 1) <<< ((nI b) &&& 31)) ^^^ (-1)))) 11 ((16 * f) + b) (((st2 M 11 ((16 * f) + w) ((M 11 ((16 * f) + w)) &&& (((nI 1) <<< ((nI b) &&& 31)) ^^^ (-1)))) 11 ((16 * f) + b)) &&& (((nI 1) <<< ((nI w) &&& 31)) ^^^ (-1)))) (⟨rfl, es.symm⟩) (rfl) (by omega) (by omega) dX5_apply_297
  · have es : apR M f i = st2 M 10 (16 * f + w) (M 3 i) := by unfold apR; rw [ewc, hk]; rfl
    refine x_top (nI 6) (hk) ?_
    refine x_tableIn F 274 dX5_apply_18 (by decide +kernel) (by decide +kernel) (off := 256) (by decide +kernel) (by decide) ?_
    refine x_aload_n F 1 dX5_apply_274 rfl ?_
    refine x_get F inUX5 0 10 rfl rfl (by decide) wfX5_38 rfl dX5_apply_275 ?_
    refine x_iload_n F 0 dX5_apply_278 rfl ?_
    refine x_aload_n F 1 dX5_apply_279 rfl ?_
    refine x_get F inUX5 0 3 rfl rfl (by decide) wfX5_16 rfl dX5_apply_280 ?_
    refine x_iload_n F 3 dX5_apply_283 rfl ?_
    refine x_iald F 3 (k := i) rfl (by omega) (by decide) dX5_apply_284 ?_
    refine x_iast F 10 (k := (16 * f) + w) (wR cA ar (st2 M 10 ((16 * f) + w) (M 3 i))) rfl (by omega) (by decide) rfl dX5_apply_285 ?_
    refine x_goto F 297 dX5_apply_286 (by decide) ?_
    exact x_vret F (st2 M 10 ((16 * f) + w) (M 3 i)) (⟨rfl, es.symm⟩) (rfl) (by omega) (by omega) dX5_apply_297
  · have es : apR M f i = st2 M 10 (16 * f + w) (-2) := by unfold apR; rw [ewc, hk]; rfl
    refine x_top (nI 7) (hk) ?_
    refine x_tableOut F 289 dX5_apply_18 (by decide +kernel) (by decide) ?_
    refine x_aload_n F 1 dX5_apply_289 rfl ?_
    refine x_get F inUX5 0 10 rfl rfl (by decide) wfX5_38 rfl dX5_apply_290 ?_
    refine x_iload_n F 0 dX5_apply_293 rfl ?_
    refine x_bipush F (-2) dX5_apply_294 (by decide +kernel) ?_
    refine x_iast F 10 (k := (16 * f) + w) (wR cA ar (st2 M 10 ((16 * f) + w) (-2))) rfl (by omega) (by decide) rfl dX5_apply_296 ?_
    exact x_vret F (st2 M 10 ((16 * f) + w) (-2)) (⟨rfl, es.symm⟩) (rfl) (by omega) (by omega) dX5_apply_297

set_option maxHeartbeats 4000000 in
set_option maxRecDepth 100000 in
theorem c_X5_makeFacts (l : Launch) (D : va_G) (cA : Nat → ClassId) (ar : Nat → Nat) (M : Nat → Nat → Int32) (f n : Nat) (hf : f < 5) (hn : n ≤ 120) (hw : ∀ i, i < n → wfE (logR M) i) : Cg l D cA yX5_makeFacts cX5_makeFacts 4 none 2 0 0 ([.ref (ar 100), .int (nI f), .int (nI n)] : List Value) (wR cA ar M) (fun (r : Option Value) (u : Nat → Nat → Int32) => r = none ∧ u = mkR M f n) (fun u : Nat → Nat → Int32 => wR cA ar u) := by
  refine x_met (by decide +kernel) rfl (Nat.le_of_ble_eq_true rfl) ?_
  intro xp xe xs xm xbl xme xco F hnm
  refine x_lv [(0, .ref (ar 100)), (1, .int (nI f)), (2, .int (nI n))] [0, 1, 2] rfl ?_
  refine x_aload_n F 0 dX5_makeFacts_0 rfl ?_
  refine x_iload_n F 1 dX5_makeFacts_1 rfl ?_
  refine x_callV F [] ([]) [0, 1, 2, 3, 4, 5, 6, 7, 8, 9, 10, 11, 12, 13, 14, 15, 16, 17, 18, 19, 20, 21, 22, 23, 24, 25] [] (c_X5_forget l D cA ar M f hf) mwX5_forget wmX5_86 rfl (q0 := 0) rfl rfl rfl (Nat.le_of_ble_eq_true rfl) ⟨by decide, by decide⟩ ⟨by show _ ≤ 0; omega, by show _ ≤ 0; omega⟩ rfl rfl (by decide) (by decide) (by decide) dX5_makeFacts_2 (fun r1 u2 hp3 => ?_)
  obtain ⟨rfl, rfl⟩ := hp3
  refine x_iconst F (nI 0) dX5_makeFacts_5 (by decide +kernel) ?_
  refine x_istore_n F [(3, .int (nI 0)), (0, .ref (ar 100)), (1, .int (nI f)), (2, .int (nI n))] dX5_makeFacts_6 (by decide) rfl ?_
  refine x_ws (wR cA ar (itR f 0 (fgS M f 6))) rfl ?_
  refine x_lv [(0, .ref (ar 100)), (1, .int (nI f)), (2, .int (nI n)), (3, .int (nI 0))] [1, 2, 3, 0] rfl ?_
  have loop7 : ∀ (nn7 : Nat) (x : Nat), (x ≤ n) → (n - x < nn7) → Wx xp l xe (rmL 2 0 0) xs xm ([.ref (ar 100), .int (nI f), .int (nI n)] : List Value).toArray xbl xme xco 0 0 (xQ xbl D (wR cA ar M) xs ([.ref (ar 100), .int (nI f), .int (nI n)] : List Value).toArray 0 0 (fun (r : Option Value) (u : Nat → Nat → Int32) => r = none ∧ u = mkR M f n) (fun u : Nat → Nat → Int32 => wR cA ar u)) 4 D (va_A (wR cA ar M) xs.heap.size) 7 [(0, .ref (ar 100)), (1, .int (nI f)), (2, .int (nI n)), (3, .int (nI x))] [] (wR cA ar (itR f x (fgS M f 6))) := by
    intro nn7
    induction nn7 with
    | zero =>
      intro x hx hm7
      exact absurd hm7 (Nat.not_lt_zero _)
    | succ nn7 ih7 =>
      intro x hx hm7
      refine x_iload_n F 3 dX5_makeFacts_7 rfl ?_
      refine x_iload_n F 2 dX5_makeFacts_8 rfl ?_
      refine x_icmp_ge F 24 dX5_makeFacts_9 (by decide) (fun h9 => ?_) (fun h9 => ?_)
      · have h9n : n ≤ x := (nI_leI (by omega) (by omega)).mp h9
        obtain rfl : n = x := by omega
        exact x_vret F (itR f n (fgS M f 6)) (⟨rfl, rfl⟩) (rfl) (by omega) (by omega) dX5_makeFacts_24
      · have h9n : ¬ n ≤ x := fun z => h9 ((nI_leI (by omega) (by omega)).mpr z)
        refine x_aload_n F 0 dX5_makeFacts_12 rfl ?_
        refine x_iload_n F 1 dX5_makeFacts_13 rfl ?_
        refine x_iload_n F 3 dX5_makeFacts_14 rfl ?_
        refine x_callV F [] ([]) [0, 1, 2, 3, 4, 5, 6, 7, 8, 9, 10, 11, 12, 13, 14, 15, 16, 17, 18, 19, 20, 21, 22, 23, 24, 25] [] (c_X5_apply l D cA ar (itR f x (fgS M f 6)) f x hf (by omega) (wfE_log (fun k hk => by rw [itR_o _ _ _ _ (Or.inl hk), fgS_o _ _ _ _ (Or.inl hk)]) (hw x (by omega)))) mwX5_apply wmX5_94 rfl (q0 := 0) rfl rfl rfl (Nat.le_of_ble_eq_true rfl) ⟨by decide, by decide⟩ ⟨by show _ ≤ 0; omega, by show _ ≤ 0; omega⟩ rfl rfl (by decide) (by decide) (by decide) dX5_makeFacts_15 (fun r4 u5 hp6 => ?_)
        obtain ⟨rfl, rfl⟩ := hp6
        refine x_iinc F (nI (x + 1)) 3 [(3, .int (nI (x + 1))), (0, .ref (ar 100)), (1, .int (nI f)), (2, .int (nI n))] dX5_makeFacts_18 rfl ((nI_add x 1)) (by decide) rfl ?_
        refine x_goto F 7 dX5_makeFacts_21 (by decide) ?_
        refine x_ws (wR cA ar (itR f (x + 1) (fgS M f 6))) rfl ?_
        refine x_lv [(0, .ref (ar 100)), (1, .int (nI f)), (2, .int (nI n)), (3, .int (nI (x + 1)))] [1, 2, 3, 0] rfl ?_
        exact ih7 (x + 1) (by omega) (by omega)
  exact loop7 _ 0 (Nat.zero_le _) (Nat.lt_succ_self _)

set_option maxHeartbeats 4000000 in
set_option maxRecDepth 100000 in
theorem c_X5_add (l : Launch) (D : va_G) (cA : Nat → ClassId) (ar : Nat → Nat) (M : Nat → Nat → Int32) (n : Nat) (p1 p2 p3 p4 p5 : Int32) (hc : M 0 0 = nI n) (hn : n ≤ 120) (hw : wfE (logR (enR M n p1 p2 p3 p4 p5)) n) : Cg l D cA yX5_add cX5_add 6 (some .int) 2 0 0 ([.ref (ar 100), .int p1, .int p2, .int p3, .int p4, .int p5] : List Value) (wR cA ar M) (fun (r : Option Value) (u : Nat → Nat → Int32) => (n = 120 → r = some (.int (-4)) ∧ u = M) ∧ (n < 120 → r = some (.int (nI (n + 1))) ∧ u = apR (enR M n p1 p2 p3 p4 p5) 4 n)) (fun u : Nat → Nat → Int32 => wR cA ar u) := by
  refine x_met (by decide +kernel) rfl (Nat.le_of_ble_eq_true rfl) ?_
  intro xp xe xs xm xbl xme xco F hnm
  refine x_lv [(0, .ref (ar 100)), (1, .int p1), (2, .int p2), (3, .int p3), (4, .int p4), (5, .int p5)] [0, 1, 2, 3, 4, 5] rfl ?_
  refine x_aload_n F 0 dX5_add_0 rfl ?_
  refine x_get F inUX5 0 0 rfl rfl (by decide) wfX5_97 rfl dX5_add_1 ?_
  refine x_top (nI n) (hc) ?_
  refine x_bipush F (nI 120) dX5_add_4 (by decide +kernel) ?_
  refine x_icmp_ne F 12 dX5_add_6 (by decide) (fun h6 => ?_) (fun h6 => ?_)
  · have h6n : ¬ n = 120 := fun z => h6 ((nI_eq (by omega) (by decide)).mpr z)
    refine x_aload_n F 0 dX5_add_12 rfl ?_
    refine x_get F inUX5 0 1 rfl rfl (by decide) wfX5_7 rfl dX5_add_13 ?_
    refine x_aload_n F 0 dX5_add_16 rfl ?_
    refine x_get F inUX5 0 0 rfl rfl (by decide) wfX5_97 rfl dX5_add_17 ?_
    refine x_top (nI n) (hc) ?_
    refine x_iload_n F 1 dX5_add_20 rfl ?_
    refine x_iast F 1 (k := n) (wR cA ar (st2 M 1 n p1)) rfl (by omega) (by decide) rfl dX5_add_21 ?_
    refine x_aload_n F 0 dX5_add_22 rfl ?_
    refine x_get F inUX5 0 2 rfl rfl (by decide) wfX5_13 rfl dX5_add_23 ?_
    refine x_aload_n F 0 dX5_add_26 rfl ?_
    refine x_get F inUX5 0 0 rfl rfl (by decide) wfX5_97 rfl dX5_add_27 ?_
    refine x_top (nI n) (hc) ?_
    refine x_iload_n F 2 dX5_add_30 rfl ?_
    refine x_iast F 2 (k := n) (wR cA ar (st2 (st2 M 1 n p1) 2 n p2)) rfl (by omega) (by decide) rfl dX5_add_31 ?_
    refine x_aload_n F 0 dX5_add_32 rfl ?_
    refine x_get F inUX5 0 3 rfl rfl (by decide) wfX5_16 rfl dX5_add_33 ?_
    refine x_aload_n F 0 dX5_add_36 rfl ?_
    refine x_get F inUX5 0 0 rfl rfl (by decide) wfX5_97 rfl dX5_add_37 ?_
    refine x_top (nI n) (hc) ?_
    refine x_iload_n F 3 dX5_add_40 rfl ?_
    refine x_iast F 3 (k := n) (wR cA ar (st2 (st2 (st2 M 1 n p1) 2 n p2) 3 n p3)) rfl (by omega) (by decide) rfl dX5_add_41 ?_
    refine x_aload_n F 0 dX5_add_42 rfl ?_
    refine x_get F inUX5 0 4 rfl rfl (by decide) wfX5_19 rfl dX5_add_43 ?_
    refine x_aload_n F 0 dX5_add_46 rfl ?_
    refine x_get F inUX5 0 0 rfl rfl (by decide) wfX5_97 rfl dX5_add_47 ?_
    refine x_top (nI n) (hc) ?_
    refine x_iload F 4 dX5_add_50 rfl ?_
    refine x_iast F 4 (k := n) (wR cA ar (st2 (st2 (st2 (st2 M 1 n p1) 2 n p2) 3 n p3) 4 n p4)) rfl (by omega) (by decide) rfl dX5_add_52 ?_
    refine x_aload_n F 0 dX5_add_53 rfl ?_
    refine x_get F inUX5 0 5 rfl rfl (by decide) wfX5_22 rfl dX5_add_54 ?_
    refine x_aload_n F 0 dX5_add_57 rfl ?_
    refine x_get F inUX5 0 0 rfl rfl (by decide) wfX5_97 rfl dX5_add_58 ?_
    refine x_top (nI n) (hc) ?_
    refine x_iload F 5 dX5_add_61 rfl ?_
    refine x_iast F 5 (k := n) (wR cA ar (st2 (st2 (st2 (st2 (st2 M 1 n p1) 2 n p2) 3 n p3) 4 n p4) 5 n p5)) rfl (by omega) (by decide) rfl dX5_add_63 ?_
    refine x_aload_n F 0 dX5_add_64 rfl ?_
    refine x_dup F dX5_add_65 rfl ?_
    refine x_get F inUX5 0 0 rfl rfl (by decide) wfX5_97 rfl dX5_add_66 ?_
    refine x_top (nI n) (hc) ?_
    refine x_iconst F (nI 1) dX5_add_69 (by decide +kernel) ?_
    refine x_iadd F (nI (n + 1)) dX5_add_70 (nI_add _ _) ?_
    refine x_put F inUX5 tyX5_ok nmX5 0 0 (wR cA ar (st2 (st2 (st2 (st2 (st2 (st2 M 1 n p1) 2 n p2) 3 n p3) 4 n p4) 5 n p5) 0 0 (nI (n + 1)))) rfl rfl (by decide) wfX5_97 rfl rfl rfl rfl (Nat.le_of_ble_eq_true rfl) rfl dX5_add_71 ?_
    refine x_aload_n F 0 dX5_add_74 rfl ?_
    refine x_iconst F (nI 4) dX5_add_75 (by decide +kernel) ?_
    refine x_aload_n F 0 dX5_add_76 rfl ?_
    refine x_get F inUX5 0 0 rfl rfl (by decide) wfX5_97 rfl dX5_add_77 ?_
    refine x_top (nI (n + 1)) (rfl) ?_
    refine x_iconst F (nI 1) dX5_add_80 (by decide +kernel) ?_
    refine x_isub F ((nI (n + 1)) - (nI 1)) dX5_add_81 rfl ?_
    refine x_top (nI n) (nI_pred n) ?_
    refine x_ws (wR cA ar (enR M n p1 p2 p3 p4 p5)) rfl ?_
    refine x_callV F [] ([]) [0, 1, 2, 3, 4, 5, 6, 7, 8, 9, 10, 11, 12, 13, 14, 15, 16, 17, 18, 19, 20, 21, 22, 23, 24, 25] [] (c_X5_apply l D cA ar (enR M n p1 p2 p3 p4 p5) 4 n (by decide) (by omega) hw) mwX5_apply wmX5_94 rfl (q0 := 0) rfl rfl rfl (Nat.le_of_ble_eq_true rfl) ⟨by decide, by decide⟩ ⟨by show _ ≤ 0; omega, by show _ ≤ 0; omega⟩ rfl rfl (by decide) (by decide) (by decide) dX5_add_82 (fun r1 u2 hp3 => ?_)
    obtain ⟨rfl, rfl⟩ := hp3
    refine x_aload_n F 0 dX5_add_85 rfl ?_
    refine x_get F inUX5 0 0 rfl rfl (by decide) wfX5_97 rfl dX5_add_86 ?_
    refine x_top (nI (n + 1)) (by rw [apR_o _ _ _ _ (Or.inl (by decide))]; rfl) ?_
    exact x_iret F (apR (enR M n p1 p2 p3 p4 p5) 4 n) (⟨fun z => absurd z (by omega), fun _ => ⟨rfl, rfl⟩⟩) (rfl) (by omega) (by omega) dX5_add_89
  · have h6n : n = 120 := (nI_eq (by omega) (by decide)).mp h6
    refine x_bipush F (-4) dX5_add_9 (by decide +kernel) ?_
    exact x_iret F M (⟨fun _ => ⟨rfl, rfl⟩, fun z => absurd z (by omega)⟩) (rfl) (by omega) (by omega) dX5_add_11

set_option maxHeartbeats 4000000 in
set_option maxRecDepth 100000 in
theorem c_X5_isJob (l : Launch) (D : va_G) (cA : Nat → ClassId) (ar : Nat → Nat) (M : Nat → Nat → Int32) (p0 : Int32)  : Cr l D cA yX5_isJob cX5_isJob 2 (some .boolean) 1 ([.ref (ar 100), .int p0] : List Value) (wR cA ar M) (fun r : Option Value => r = some (.int (bz ((nI 0 ≤ p0 ∧ p0 ≤ nI 15) ∧ ¬ slc 4 M 2 p0.toNatClampNeg = 0)))) := by
  refine x_met (by decide +kernel) rfl (Nat.le_of_ble_eq_true rfl) ?_
  intro xp xe xs xm xbl xme xco F hnm
  refine x_lv [(0, .ref (ar 100)), (1, .int p0)] [0, 1] rfl ?_
  refine x_iload_n F 1 dX5_isJob_0 rfl ?_
  refine x_iconst F (nI 0) dX5_isJob_1 (by decide +kernel) ?_
  refine x_bipush F (nI 15) dX5_isJob_2 (by decide +kernel) ?_
  refine x_callSr F [] [] (c_X5_in l D cA p0 (nI 0) (nI 15)) mwX5_in wmX5_101 rfl rfl (Nat.le_of_ble_eq_true rfl) ⟨by decide, by decide⟩ ⟨by show _ ≤ 0; omega, by show _ ≤ 0; omega⟩ rfl (by decide) dX5_isJob_4 (fun r1 hp2 => ?_)
  subst hp2
  refine x_if_eq F 26 dX5_isJob_7 (by decide) (fun h7 => ?_) (fun h7 => ?_)
  · refine x_iconst F (nI 0) dX5_isJob_26 (by decide +kernel) ?_
    exact x_zret F (by decide +kernel) () (by first | rw [has_1 (M := slc 4 M) hj h19] | rw [has_2 (M := slc 4 M) hj h19] | rw [has_3 h7]) (rfl) (by omega) (by omega) dX5_isJob_27
  · obtain ⟨j, hj, rfl⟩ := wn (n := 15) (by decide) (bz_n0.mp h7)
    refine x_aload_n F 0 dX5_isJob_10 rfl ?_
    refine x_get F inUX5 0 6 rfl rfl (by decide) wfX5_25 rfl dX5_isJob_11 ?_
    refine x_bipush F (nI 64) dX5_isJob_14 (by decide +kernel) ?_
    refine x_iload_n F 1 dX5_isJob_16 rfl ?_
    refine x_iadd F (nI (64 + j)) dX5_isJob_17 (nI_add _ _) ?_
    refine x_zald F 6 (k := 64 + j) rfl (by omega) (by decide) dX5_isJob_18 ?_
    refine x_if_eq F 26 dX5_isJob_19 (by decide) (fun h19 => ?_) (fun h19 => ?_)
    · refine x_iconst F (nI 0) dX5_isJob_26 (by decide +kernel) ?_
      exact x_zret F (by decide +kernel) () (by first | rw [has_1 (M := slc 4 M) hj h19] | rw [has_2 (M := slc 4 M) hj h19] | rw [has_3 h7]) (rfl) (by omega) (by omega) dX5_isJob_27
    · refine x_iconst F (nI 1) dX5_isJob_22 (by decide +kernel) ?_
      refine x_goto F 27 dX5_isJob_23 (by decide) ?_
      exact x_zret F (by decide +kernel) () (by first | rw [has_1 (M := slc 4 M) hj h19] | rw [has_2 (M := slc 4 M) hj h19] | rw [has_3 h7]) (rfl) (by omega) (by omega) dX5_isJob_27

set_option maxHeartbeats 4000000 in
set_option maxRecDepth 100000 in
theorem c_X5_isSolve (l : Launch) (D : va_G) (cA : Nat → ClassId) (ar : Nat → Nat) (M : Nat → Nat → Int32) (p0 : Int32)  : Cr l D cA yX5_isSolve cX5_isSolve 2 (some .boolean) 1 ([.ref (ar 100), .int p0] : List Value) (wR cA ar M) (fun r : Option Value => r = some (.int (bz (nI 0 ≤ p0 ∧ p0 ≤ M 17 0 - nI 1)))) := by
  refine x_met (by decide +kernel) rfl (Nat.le_of_ble_eq_true rfl) ?_
  intro xp xe xs xm xbl xme xco F hnm
  refine x_lv [(0, .ref (ar 100)), (1, .int p0)] [0, 1] rfl ?_
  refine x_iload_n F 1 dX5_isSolve_0 rfl ?_
  refine x_iconst F (nI 0) dX5_isSolve_1 (by decide +kernel) ?_
  refine x_aload_n F 0 dX5_isSolve_2 rfl ?_
  refine x_get F inUX5 0 17 rfl rfl (by decide) wfX5_129 rfl dX5_isSolve_3 ?_
  refine x_iconst F (nI 1) dX5_isSolve_6 (by decide +kernel) ?_
  refine x_isub F ((M 17 0) - (nI 1)) dX5_isSolve_7 rfl ?_
  refine x_callSr F [] [] (c_X5_in l D cA p0 (nI 0) ((M 17 0) - (nI 1))) mwX5_in wmX5_101 rfl rfl (Nat.le_of_ble_eq_true rfl) ⟨by decide, by decide⟩ ⟨by show _ ≤ 0; omega, by show _ ≤ 0; omega⟩ rfl (by decide) dX5_isSolve_8 (fun r1 hp2 => ?_)
  subst hp2
  exact x_zret F (bz_nar) () (rfl) (rfl) (by omega) (by omega) dX5_isSolve_11

set_option maxHeartbeats 4000000 in
set_option maxRecDepth 100000 in
theorem c_X5_roomOf (l : Launch) (D : va_G) (cA : Nat → ClassId) (ar : Nat → Nat) (M : Nat → Nat → Int32) (a j b : Nat) (ha : a < 20) (hj : j < 16) (hb : b < 5) : Cr l D cA yX5_roomOf cX5_roomOf 4 (some .int) 0 ([.ref (ar 100), .int (nI a), .int (nI j), .int (nI b)] : List Value) (wR cA ar M) (fun r : Option Value => r = some (.int (rmO M a b j))) := by
  refine x_met (by decide +kernel) rfl (Nat.le_of_ble_eq_true rfl) ?_
  intro xp xe xs xm xbl xme xco F hnm
  refine x_lv [(0, .ref (ar 100)), (1, .int (nI a)), (2, .int (nI j)), (3, .int (nI b))] [0, 1, 2, 3] rfl ?_
  refine x_aload_n F 0 dX5_roomOf_0 rfl ?_
  refine x_get F inUX5 0 6 rfl rfl (by decide) wfX5_25 rfl dX5_roomOf_1 ?_
  refine x_bipush F (nI 16) dX5_roomOf_4 (by decide +kernel) ?_
  refine x_iload_n F 3 dX5_roomOf_6 rfl ?_
  refine x_imul F (nI (16 * b)) dX5_roomOf_7 (pk_mul _ _) ?_
  refine x_iload_n F 2 dX5_roomOf_8 rfl ?_
  refine x_iadd F (nI ((16 * b) + j)) dX5_roomOf_9 (nI_add _ _) ?_
  refine x_zald F 6 (k := (16 * b) + j) rfl (by omega) (by decide) dX5_roomOf_10 ?_
  refine x_if_eq F 28 dX5_roomOf_11 (by decide) (fun h11 => ?_) (fun h11 => ?_)
  · refine x_iconst F (-1) dX5_roomOf_28 (by decide +kernel) ?_
    exact x_iret F () (by unfold rmO; rw [if_pos h11]) (rfl) (by omega) (by omega) dX5_roomOf_29
  · refine x_aload_n F 0 dX5_roomOf_14 rfl ?_
    refine x_get F inUX5 0 14 rfl rfl (by decide) wfX5_47 rfl dX5_roomOf_15 ?_
    refine x_bipush F (nI 16) dX5_roomOf_18 (by decide +kernel) ?_
    refine x_iload_n F 1 dX5_roomOf_20 rfl ?_
    refine x_imul F (nI (16 * a)) dX5_roomOf_21 (pk_mul _ _) ?_
    refine x_iload_n F 2 dX5_roomOf_22 rfl ?_
    refine x_iadd F (nI ((16 * a) + j)) dX5_roomOf_23 (nI_add _ _) ?_
    refine x_iald F 13 (k := (16 * a) + j) rfl (by omega) (by decide) dX5_roomOf_24 ?_
    refine x_goto F 29 dX5_roomOf_25 (by decide) ?_
    exact x_iret F () (by unfold rmO; rw [if_neg h11]) (rfl) (by omega) (by omega) dX5_roomOf_29

set_option maxHeartbeats 4000000 in
set_option maxRecDepth 100000 in
theorem c_X5_copyPlan (l : Launch) (D : va_G) (cA : Nat → ClassId) (ar : Nat → Nat) (M : Nat → Nat → Int32) (a b : Nat) (ha : a < 20) (hb : b < 20) : Cg l D cA yX5_copyPlan cX5_copyPlan 4 none 0 0 0 ([.ref (ar 100), .int (nI a), .int (nI b)] : List Value) (wR cA ar M) (fun (r : Option Value) (u : Nat → Nat → Int32) => r = none ∧ u = cpR M a b 16) (fun u : Nat → Nat → Int32 => wR cA ar u) := by
  refine x_met (by decide +kernel) rfl (Nat.le_of_ble_eq_true rfl) ?_
  intro xp xe xs xm xbl xme xco F hnm
  refine x_lv [(0, .ref (ar 100)), (1, .int (nI a)), (2, .int (nI b))] [0, 1, 2] rfl ?_
  refine x_iconst F (nI 0) dX5_copyPlan_0 (by decide +kernel) ?_
  refine x_istore_n F [(3, .int (nI 0)), (0, .ref (ar 100)), (1, .int (nI a)), (2, .int (nI b))] dX5_copyPlan_1 (by decide) rfl ?_
  refine x_ws (wR cA ar (cpR M a b 0)) (by rw [cpR_0]) ?_
  refine x_lv [(0, .ref (ar 100)), (1, .int (nI a)), (2, .int (nI b)), (3, .int (nI 0))] [1, 2, 3, 0] rfl ?_
  have loop2 : ∀ (nn2 : Nat) (x : Nat), (x ≤ 16) → (16 - x < nn2) → Wx xp l xe (rmL 0 0 0) xs xm ([.ref (ar 100), .int (nI a), .int (nI b)] : List Value).toArray xbl xme xco 0 0 (xQ xbl D (wR cA ar M) xs ([.ref (ar 100), .int (nI a), .int (nI b)] : List Value).toArray 0 0 (fun (r : Option Value) (u : Nat → Nat → Int32) => r = none ∧ u = cpR M a b 16) (fun u : Nat → Nat → Int32 => wR cA ar u)) 4 D (va_A (wR cA ar M) xs.heap.size) 2 [(0, .ref (ar 100)), (1, .int (nI a)), (2, .int (nI b)), (3, .int (nI x))] [] (wR cA ar (cpR M a b x)) := by
    intro nn2
    induction nn2 with
    | zero =>
      intro x hx hm2
      exact absurd hm2 (Nat.not_lt_zero _)
    | succ nn2 ih2 =>
      intro x hx hm2
      refine x_iload_n F 3 dX5_copyPlan_2 rfl ?_
      refine x_bipush F (nI 16) dX5_copyPlan_3 (by decide +kernel) ?_
      refine x_icmp_ge F 36 dX5_copyPlan_5 (by decide) (fun h5 => ?_) (fun h5 => ?_)
      · have h5n : 16 ≤ x := (nI_leI (by decide) (by omega)).mp h5
        obtain rfl : 16 = x := by omega
        exact x_vret F (cpR M a b 16) (⟨rfl, rfl⟩) (rfl) (by omega) (by omega) dX5_copyPlan_36
      · have h5n : ¬ 16 ≤ x := fun z => h5 ((nI_leI (by decide) (by omega)).mpr z)
        refine x_aload_n F 0 dX5_copyPlan_8 rfl ?_
        refine x_get F inUX5 0 14 rfl rfl (by decide) wfX5_47 rfl dX5_copyPlan_9 ?_
        refine x_bipush F (nI 16) dX5_copyPlan_12 (by decide +kernel) ?_
        refine x_iload_n F 2 dX5_copyPlan_14 rfl ?_
        refine x_imul F (nI (16 * b)) dX5_copyPlan_15 (pk_mul _ _) ?_
        refine x_iload_n F 3 dX5_copyPlan_16 rfl ?_
        refine x_iadd F (nI ((16 * b) + x)) dX5_copyPlan_17 (nI_add _ _) ?_
        refine x_aload_n F 0 dX5_copyPlan_18 rfl ?_
        refine x_get F inUX5 0 14 rfl rfl (by decide) wfX5_47 rfl dX5_copyPlan_19 ?_
        refine x_bipush F (nI 16) dX5_copyPlan_22 (by decide +kernel) ?_
        refine x_iload_n F 1 dX5_copyPlan_24 rfl ?_
        refine x_imul F (nI (16 * a)) dX5_copyPlan_25 (pk_mul _ _) ?_
        refine x_iload_n F 3 dX5_copyPlan_26 rfl ?_
        refine x_iadd F (nI ((16 * a) + x)) dX5_copyPlan_27 (nI_add _ _) ?_
        refine x_iald F 13 (k := (16 * a) + x) rfl (by omega) (by decide) dX5_copyPlan_28 ?_
        refine x_iast F 13 (k := (16 * b) + x) (wR cA ar (st2 (cpR M a b x) 14 ((16 * b) + x) ((cpR M a b x) 14 ((16 * a) + x)))) rfl (by omega) (by decide) rfl dX5_copyPlan_29 ?_
        refine x_iinc F (nI (x + 1)) 3 [(3, .int (nI (x + 1))), (0, .ref (ar 100)), (1, .int (nI a)), (2, .int (nI b))] dX5_copyPlan_30 rfl ((nI_add x 1)) (by decide) rfl ?_
        refine x_goto F 2 dX5_copyPlan_33 (by decide) ?_
        rw [cpR_s _ _ _ _ (by omega)]
        refine x_lv [(0, .ref (ar 100)), (1, .int (nI a)), (2, .int (nI b)), (3, .int (nI (x + 1)))] [1, 2, 3, 0] rfl ?_
        exact ih2 (x + 1) (by omega) (by omega)
  exact loop2 _ 0 (Nat.zero_le _) (Nat.lt_succ_self _)

set_option maxHeartbeats 4000000 in
set_option maxRecDepth 100000 in
theorem c_X5_isFree (l : Launch) (D : va_G) (cA : Nat → ClassId) (ar : Nat → Nat) (M : Nat → Nat → Int32) (s_ j : Nat) (hs : s_ < 5) (hj : j < 16) : Cr l D cA yX5_isFree cX5_isFree 3 (some .boolean) 0 ([.ref (ar 100), .int (nI s_), .int (nI j)] : List Value) (wR cA ar M) (fun r : Option Value => r = some (.int (bz (¬ slc s_ M 2 j = 0 ∧ slc s_ M 6 j = (-2))))) := by
  refine x_met (by decide +kernel) rfl (Nat.le_of_ble_eq_true rfl) ?_
  intro xp xe xs xm xbl xme xco F hnm
  refine x_lv [(0, .ref (ar 100)), (1, .int (nI s_)), (2, .int (nI j))] [0, 1, 2] rfl ?_
  refine x_aload_n F 0 dX5_isFree_0 rfl ?_
  refine x_get F inUX5 0 6 rfl rfl (by decide) wfX5_25 rfl dX5_isFree_1 ?_
  refine x_bipush F (nI 16) dX5_isFree_4 (by decide +kernel) ?_
  refine x_iload_n F 1 dX5_isFree_6 rfl ?_
  refine x_imul F (nI (16 * s_)) dX5_isFree_7 (pk_mul _ _) ?_
  refine x_iload_n F 2 dX5_isFree_8 rfl ?_
  refine x_iadd F (nI ((16 * s_) + j)) dX5_isFree_9 (nI_add _ _) ?_
  refine x_zald F 6 (k := (16 * s_) + j) rfl (by omega) (by decide) dX5_isFree_10 ?_
  refine x_if_eq F 34 dX5_isFree_11 (by decide) (fun h11 => ?_) (fun h11 => ?_)
  · refine x_iconst F (nI 0) dX5_isFree_34 (by decide +kernel) ?_
    exact x_zret F (by decide +kernel) () (by rw [bz_f (fun z => z.1 h11)]; rfl) (rfl) (by omega) (by omega) dX5_isFree_35
  · refine x_aload_n F 0 dX5_isFree_14 rfl ?_
    refine x_get F inUX5 0 10 rfl rfl (by decide) wfX5_38 rfl dX5_isFree_15 ?_
    refine x_bipush F (nI 16) dX5_isFree_18 (by decide +kernel) ?_
    refine x_iload_n F 1 dX5_isFree_20 rfl ?_
    refine x_imul F (nI (16 * s_)) dX5_isFree_21 (pk_mul _ _) ?_
    refine x_iload_n F 2 dX5_isFree_22 rfl ?_
    refine x_iadd F (nI ((16 * s_) + j)) dX5_isFree_23 (nI_add _ _) ?_
    refine x_iald F 10 (k := (16 * s_) + j) rfl (by omega) (by decide) dX5_isFree_24 ?_
    refine x_bipush F (-2) dX5_isFree_25 (by decide +kernel) ?_
    refine x_icmp_ne F 34 dX5_isFree_27 (by decide) (fun h27 => ?_) (fun h27 => ?_)
    · refine x_iconst F (nI 0) dX5_isFree_34 (by decide +kernel) ?_
      exact x_zret F (by decide +kernel) () (by rw [bz_f (fun z => h27 z.2)]; rfl) (rfl) (by omega) (by omega) dX5_isFree_35
    · refine x_iconst F (nI 1) dX5_isFree_30 (by decide +kernel) ?_
      refine x_goto F 35 dX5_isFree_31 (by decide) ?_
      exact x_zret F (by decide +kernel) () (by rw [bz_t ⟨h11, h27⟩]; rfl) (rfl) (by omega) (by omega) dX5_isFree_35

theorem mvc_lt_16 {M : Nat → Nat → Int32} {k j : Nat} (hk : k < mvc M 16) (hj : mvc M j ≤ k) : j < 16 := by
  rcases Nat.lt_or_ge j 16 with h | h
  · exact h
  · have mono : ∀ d, mvc M 16 ≤ mvc M (16 + d) := by
      intro d
      induction d with
      | zero => exact Nat.le_refl _
      | succ d ih => exact Nat.le_trans ih (by show mvc M (16 + d) ≤ mvc M (16 + d + 1); unfold mvc; split <;> omega)
    have := mono (j - 16)
    rw [show 16 + (j - 16) = j by omega] at this
    omega
set_option maxHeartbeats 4000000 in
set_option maxRecDepth 100000 in
theorem c_X5_nth (l : Launch) (D : va_G) (cA : Nat → ClassId) (ar : Nat → Nat) (M : Nat → Nat → Int32) (s_ k : Nat) (hs : s_ < 5) (hk : k < mvc (slc s_ M) 16) : Cr l D cA yX5_nth cX5_nth 5 (some .int) 1 ([.ref (ar 100), .int (nI s_), .int (nI k)] : List Value) (wR cA ar M) (fun r : Option Value => ∃ j : Nat, r = some (.int (nI j)) ∧ j < 16 ∧ (¬ slc s_ M 2 j = 0 ∧ slc s_ M 6 j = (-2)) ∧ mvc (slc s_ M) j = k) := by
  refine x_met (by decide +kernel) rfl (Nat.le_of_ble_eq_true rfl) ?_
  intro xp xe xs xm xbl xme xco F hnm
  refine x_lv [(0, .ref (ar 100)), (1, .int (nI s_)), (2, .int (nI k))] [0, 1, 2] rfl ?_
  refine x_iload_n F 2 dX5_nth_0 rfl ?_
  refine x_istore_n F [(3, .int (nI k)), (0, .ref (ar 100)), (1, .int (nI s_)), (2, .int (nI k))] dX5_nth_1 (by decide) rfl ?_
  refine x_iconst F (nI 0) dX5_nth_2 (by decide +kernel) ?_
  refine x_istore F [(4, .int (nI 0)), (3, .int (nI k)), (0, .ref (ar 100)), (1, .int (nI s_)), (2, .int (nI k))] dX5_nth_3 (by decide) rfl ?_
  have hk16 := mvc_le (slc s_ M) 16
  refine x_lv [(0, .ref (ar 100)), (1, .int (nI s_)), (2, .int (nI k)), (3, .int (nI k)), (4, .int (nI 0))] [2, 3, 4, 1, 0] rfl ?_
  have loop5 : ∀ (nn5 : Nat) (j : Nat) (d : Nat), (d + mvc (slc s_ M) j = k) → (16 - j < nn5) → Wx xp l xe (rmL 1 0 0) xs xm ([.ref (ar 100), .int (nI s_), .int (nI k)] : List Value).toArray xbl xme xco 0 0 (xQ xbl D (wR cA ar M) xs ([.ref (ar 100), .int (nI s_), .int (nI k)] : List Value).toArray 0 0 (fun (r : Option Value) (_ : Unit) => ∃ j : Nat, r = some (.int (nI j)) ∧ j < 16 ∧ (¬ slc s_ M 2 j = 0 ∧ slc s_ M 6 j = (-2)) ∧ mvc (slc s_ M) j = k) (fun _ : Unit => wR cA ar M)) 5 D (va_A (wR cA ar M) xs.heap.size) 5 [(0, .ref (ar 100)), (1, .int (nI s_)), (2, .int (nI k)), (3, .int (nI d)), (4, .int (nI j))] [] (wR cA ar M) := by
    intro nn5
    induction nn5 with
    | zero =>
      intro j d hd hm5
      exact absurd hm5 (Nat.not_lt_zero _)
    | succ nn5 ih5 =>
      intro j d hd hm5
      refine x_aload_n F 0 dX5_nth_5 rfl ?_
      have hj16 := mvc_lt_16 (j := j) hk (by omega)
      refine x_iload_n F 1 dX5_nth_6 rfl ?_
      refine x_iload F 4 dX5_nth_7 rfl ?_
      refine x_callVr F [] [0, 1, 2, 3, 4, 5, 6, 7, 8, 9, 10, 11, 12, 13, 14, 15, 16, 17, 18, 19, 20, 21, 22, 23, 24, 25] (c_X5_isFree l D cA ar M s_ j hs (by omega)) mwX5_isFree wmX5_156 rfl (q0 := 0) rfl rfl rfl (Nat.le_of_ble_eq_true rfl) ⟨by decide, by decide⟩ ⟨by show _ ≤ 0; omega, by show _ ≤ 0; omega⟩ rfl (by decide) dX5_nth_9 (fun r1 hp2 => ?_)
      subst hp2
      refine x_if_eq F 19 dX5_nth_12 (by decide) (fun h12 => ?_) (fun h12 => ?_)
      · refine x_iload_n F 3 dX5_nth_19 rfl ?_
        refine x_aload_n F 0 dX5_nth_20 rfl ?_
        refine x_iload_n F 1 dX5_nth_21 rfl ?_
        refine x_iload F 4 dX5_nth_22 rfl ?_
        refine x_callVr F [.int (nI d)] [0, 1, 2, 3, 4, 5, 6, 7, 8, 9, 10, 11, 12, 13, 14, 15, 16, 17, 18, 19, 20, 21, 22, 23, 24, 25] (c_X5_isFree l D cA ar M s_ j hs (by omega)) mwX5_isFree wmX5_156 rfl (q0 := 0) rfl rfl rfl (Nat.le_of_ble_eq_true rfl) ⟨by decide, by decide⟩ ⟨by show _ ≤ 0; omega, by show _ ≤ 0; omega⟩ rfl (by decide) dX5_nth_24 (fun r3 hp4 => ?_)
        subst hp4
        refine x_if_eq F 34 dX5_nth_27 (by decide) (fun h27 => ?_) (fun h27 => ?_)
        · refine x_iconst F (nI 0) dX5_nth_34 (by decide +kernel) ?_
          refine x_isub F ((nI d) - (nI 0)) dX5_nth_35 rfl ?_
          refine x_top (nI d) (by rw [show nI 0 = (0 : Int32) from nI_0]; exact Int32.sub_zero _) ?_
          refine x_istore_n F [(3, .int (nI d)), (0, .ref (ar 100)), (1, .int (nI s_)), (2, .int (nI k)), (4, .int (nI j))] dX5_nth_36 (by decide) rfl ?_
          refine x_iinc F (nI (j + 1)) 4 [(4, .int (nI (j + 1))), (3, .int (nI d)), (0, .ref (ar 100)), (1, .int (nI s_)), (2, .int (nI k))] dX5_nth_37 rfl ((nI_add j 1)) (by decide) rfl ?_
          refine x_goto F 5 dX5_nth_40 (by decide) ?_
          refine x_lv [(0, .ref (ar 100)), (1, .int (nI s_)), (2, .int (nI k)), (3, .int (nI d)), (4, .int (nI (j + 1)))] [2, 3, 4, 1, 0] rfl ?_
          exact ih5 (j + 1) d (by unfold mvc; rw [if_neg (bz_0.mp h27)]; omega) (by omega)
        · refine x_iconst F (nI 1) dX5_nth_30 (by decide +kernel) ?_
          refine x_goto F 35 dX5_nth_31 (by decide) ?_
          refine x_isub F ((nI d) - (nI 1)) dX5_nth_35 rfl ?_
          obtain ⟨d2, hd2⟩ : ∃ d2, d2 + 1 = d := by first | exact ⟨d - 1, by omega⟩ | exact absurd h12 h27
          subst hd2
          refine x_top (nI d2) (nI_pred d2) ?_
          refine x_istore_n F [(3, .int (nI d2)), (0, .ref (ar 100)), (1, .int (nI s_)), (2, .int (nI k)), (4, .int (nI j))] dX5_nth_36 (by decide) rfl ?_
          refine x_iinc F (nI (j + 1)) 4 [(4, .int (nI (j + 1))), (3, .int (nI d2)), (0, .ref (ar 100)), (1, .int (nI s_)), (2, .int (nI k))] dX5_nth_37 rfl ((nI_add j 1)) (by decide) rfl ?_
          refine x_goto F 5 dX5_nth_40 (by decide) ?_
          refine x_lv [(0, .ref (ar 100)), (1, .int (nI s_)), (2, .int (nI k)), (3, .int (nI d2)), (4, .int (nI (j + 1)))] [2, 3, 4, 1, 0] rfl ?_
          exact ih5 (j + 1) d2 (by unfold mvc; rw [if_pos (bz_n0.mp h27)]; omega) (by omega)
      · refine x_iload_n F 3 dX5_nth_15 rfl ?_
        refine x_if_le F 43 dX5_nth_16 (by decide) (fun h16 => ?_) (fun h16 => ?_)
        · have h16n : d ≤ 0 := (nI_leI (by omega) (by decide)).mp (by rw [nI_0]; exact h16)
          refine x_iload F 4 dX5_nth_43 rfl ?_
          exact x_iret F () (⟨j, rfl, hj16, bz_n0.mp h12, by omega⟩) (rfl) (by omega) (by omega) dX5_nth_45
        · have h16n : ¬ d ≤ 0 := fun z => h16 (by have w := ((nI_leI (by omega) (by decide)).mpr z); rw [nI_0] at w; exact w)
          refine x_iload_n F 3 dX5_nth_19 rfl ?_
          refine x_aload_n F 0 dX5_nth_20 rfl ?_
          refine x_iload_n F 1 dX5_nth_21 rfl ?_
          refine x_iload F 4 dX5_nth_22 rfl ?_
          refine x_callVr F [.int (nI d)] [0, 1, 2, 3, 4, 5, 6, 7, 8, 9, 10, 11, 12, 13, 14, 15, 16, 17, 18, 19, 20, 21, 22, 23, 24, 25] (c_X5_isFree l D cA ar M s_ j hs (by omega)) mwX5_isFree wmX5_156 rfl (q0 := 0) rfl rfl rfl (Nat.le_of_ble_eq_true rfl) ⟨by decide, by decide⟩ ⟨by show _ ≤ 0; omega, by show _ ≤ 0; omega⟩ rfl (by decide) dX5_nth_24 (fun r5 hp6 => ?_)
          subst hp6
          refine x_if_eq F 34 dX5_nth_27 (by decide) (fun h27 => ?_) (fun h27 => ?_)
          · refine x_iconst F (nI 0) dX5_nth_34 (by decide +kernel) ?_
            refine x_isub F ((nI d) - (nI 0)) dX5_nth_35 rfl ?_
            refine x_top (nI d) (by rw [show nI 0 = (0 : Int32) from nI_0]; exact Int32.sub_zero _) ?_
            refine x_istore_n F [(3, .int (nI d)), (0, .ref (ar 100)), (1, .int (nI s_)), (2, .int (nI k)), (4, .int (nI j))] dX5_nth_36 (by decide) rfl ?_
            refine x_iinc F (nI (j + 1)) 4 [(4, .int (nI (j + 1))), (3, .int (nI d)), (0, .ref (ar 100)), (1, .int (nI s_)), (2, .int (nI k))] dX5_nth_37 rfl ((nI_add j 1)) (by decide) rfl ?_
            refine x_goto F 5 dX5_nth_40 (by decide) ?_
            refine x_lv [(0, .ref (ar 100)), (1, .int (nI s_)), (2, .int (nI k)), (3, .int (nI d)), (4, .int (nI (j + 1)))] [2, 3, 4, 1, 0] rfl ?_
            exact ih5 (j + 1) d (by unfold mvc; rw [if_neg (bz_0.mp h27)]; omega) (by omega)
          · refine x_iconst F (nI 1) dX5_nth_30 (by decide +kernel) ?_
            refine x_goto F 35 dX5_nth_31 (by decide) ?_
            refine x_isub F ((nI d) - (nI 1)) dX5_nth_35 rfl ?_
            obtain ⟨d2, hd2⟩ : ∃ d2, d2 + 1 = d := by first | exact ⟨d - 1, by omega⟩ | exact absurd h12 h27
            subst hd2
            refine x_top (nI d2) (nI_pred d2) ?_
            refine x_istore_n F [(3, .int (nI d2)), (0, .ref (ar 100)), (1, .int (nI s_)), (2, .int (nI k)), (4, .int (nI j))] dX5_nth_36 (by decide) rfl ?_
            refine x_iinc F (nI (j + 1)) 4 [(4, .int (nI (j + 1))), (3, .int (nI d2)), (0, .ref (ar 100)), (1, .int (nI s_)), (2, .int (nI k))] dX5_nth_37 rfl ((nI_add j 1)) (by decide) rfl ?_
            refine x_goto F 5 dX5_nth_40 (by decide) ?_
            refine x_lv [(0, .ref (ar 100)), (1, .int (nI s_)), (2, .int (nI k)), (3, .int (nI d2)), (4, .int (nI (j + 1)))] [2, 3, 4, 1, 0] rfl ?_
            exact ih5 (j + 1) d2 (by unfold mvc; rw [if_pos (bz_n0.mp h27)]; omega) (by omega)
  exact loop5 _ 0 k (by unfold mvc; omega) (Nat.lt_succ_self _)
end
section
/-! the reference's judging of a plan -/
def jst (M : Nat → Nat → Int32) (h s : Int32) : Nat → Nat → Int32 := st2 (st2 M 15 0 h) 16 0 s
theorem jst_h (M : Nat → Nat → Int32) (h s h2 : Int32) : st2 (jst M h s) 15 0 h2 = jst M h2 s := by
  funext k j; simp only [jst, st2_at]; repeat' split
  all_goals first | rfl | (exfalso; omega)
theorem jst_s (M : Nat → Nat → Int32) (h s s2 : Int32) : st2 (jst M h s) 16 0 s2 = jst M h s2 := by
  funext k j; simp only [jst, st2_at]; repeat' split
  all_goals first | rfl | (exfalso; omega)
theorem jst_o (M : Nat → Nat → Int32) (h s : Int32) (k : Nat) (h1 : k ≠ 15) (h2 : k ≠ 16) : jst M h s k = M k := by
  simp [jst, st2, va_up, h1, h2]
def ldR (M : Nat → Nat → Int32) (pl f ow r : Nat) : Nat → Int32
  | 0 => nI 0
  | n + 1 => ldR M pl f ow r n + (if ¬ M 6 (16 * f + n) = 0 ∧ rmO M pl ow n = nI r then M 7 (16 * f + n) else nI 0)
def ovR (M : Nat → Nat → Int32) (pl f ow : Nat) : Nat → Int32
  | 0 => nI 0
  | r + 1 => ovR M pl f ow r + (if ldR M pl f ow r 16 ≤ M 12 (6 * f + r) then nI 0 else ldR M pl f ow r 16 - M 12 (6 * f + r))
def sfR (M : Nat → Nat → Int32) (pl f ow : Nat) : Nat → Int32
  | 0 => nI 0
  | n + 1 => if M 6 (16 * f + n) = 0 then sfR M pl f ow n else sfR M pl f ow n + (if rmO M pl ow n = (-1) then nI 7 * M 8 (16 * f + n) + nI 1 else M 8 (16 * f + n) * absI (rmO M pl ow n - M 9 (16 * f + n)))
def prI (M : Nat → Nat → Int32) (pl f ow n : Nat) (h : Int32) : Nat → Int32
  | 0 => h
  | k + 1 => prI M pl f ow n h k + (if ¬ M 6 (16 * f + k) = 0 ∧ M 11 (16 * f + n) >>> (nI k &&& 31) &&& nI 1 = nI 1 ∧ rmO M pl ow k = rmO M pl ow n then nI 10 else nI 0)
def hdR (M : Nat → Nat → Int32) (pl f ow : Nat) : Nat → Int32
  | 0 => ovR M pl f ow 6
  | n + 1 => if M 6 (16 * f + n) = 0 then hdR M pl f ow n else if rmO M pl ow n = (-1) then hdR M pl f ow n else prI M pl f ow n (hdR M pl f ow n) n
/-- judge(pl, f, ow) -/
def jdg (M : Nat → Nat → Int32) (pl f ow : Nat) : Nat → Nat → Int32 := jst M (hdR M pl f ow 16) (sfR M pl f ow 16)
theorem jdg_o (M : Nat → Nat → Int32) (pl f ow k : Nat) (h1 : k ≠ 15) (h2 : k ≠ 16) : jdg M pl f ow k = M k := jst_o _ _ _ _ h1 h2
/-- fillLate(s): L places -/
def flI (M : Nat → Nat → Int32) (s n : Nat) (h f : Int32) : Nat → Nat → Int32 := fun k j => if k = 22 ∧ 8 * s ≤ j ∧ j < 8 * s + n then h else if k = 23 ∧ 8 * s ≤ j ∧ j < 8 * s + n then f else M k j
theorem flI_0 (M : Nat → Nat → Int32) (s : Nat) (h f : Int32) : flI M s 0 h f = M := by
  funext k j; unfold flI; rw [if_neg (by omega), if_neg (by omega)]
theorem flI_s (M : Nat → Nat → Int32) (s n : Nat) (h f : Int32) : st2 (st2 (flI M s n h f) 22 (8 * s + n) h) 23 (8 * s + n) f = flI M s (n + 1) h f := by
  funext k j; simp only [flI, st2_at]; repeat' split
  all_goals first | rfl | (exfalso; omega)
theorem flI_o (M : Nat → Nat → Int32) (s n : Nat) (h f : Int32) (k : Nat) (h1 : k ≠ 22) (h2 : k ≠ 23) : flI M s n h f k = M k := by
  funext j; unfold flI; rw [if_neg (fun z => h1 z.1), if_neg (fun z => h2 z.1)]
def flR (M : Nat → Nat → Int32) (s L : Nat) : Nat → Nat → Int32 := flI (jdg M s s s) s L (hdR M s s s 16) (sfR M s s s 16)
/-- keepBest(s) -/
def kbR (M : Nat → Nat → Int32) (s : Nat) : Nat → Nat → Int32 :=
  if hdR M s s s 16 < hdR M (3 + s) s s 16 ∨ hdR M s s s 16 = hdR M (3 + s) s s 16 ∧ sfR M s s s 16 < sfR M (3 + s) s s 16 then st2 (cpR (jdg M s s s) s (3 + s) 16) 25 s (M 25 s + nI 1) else jdg M s s s
end
