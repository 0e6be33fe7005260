section
-- ===== PART A: goes FIRST, ahead of the names: the tables' words, and 'selects' of the private methods out of them =====
/-- a private method of a class that the tables say can be made, by its rows of tables_1 -/
def lw_okq (q : MethodName × Nat) : Prop := (q.1.cls ≠ "java/lang/invoke/MethodHandle" ∧ q.1.cls ≠ "java/lang/invoke/VarHandle") ∧ Cond.instantiable q.1.cls q.2 ∈ tables_1 ∧ Cond.privateMethod q.1 ∈ tables_1 ∧ Cond.instanceMethod q.1 ∈ tables_1
theorem lw_p0 : lw_okq (⟨"RecurrenceAnswers$LinearSystem", "addFactor", "([III)V"⟩, 4) := ⟨⟨by decide +kernel, by decide +kernel⟩, List.mem_of_getElem? (i := 64) (by decide +kernel), List.mem_of_getElem? (i := 233) (by decide +kernel), List.mem_of_getElem? (i := 234) (by decide +kernel)⟩
theorem lw_p1 : lw_okq (⟨"RecurrenceAnswers$LinearSystem", "freeLine", "(I)I"⟩, 4) := ⟨⟨by decide +kernel, by decide +kernel⟩, List.mem_of_getElem? (i := 64) (by decide +kernel), List.mem_of_getElem? (i := 245) (by decide +kernel), List.mem_of_getElem? (i := 246) (by decide +kernel)⟩
theorem lw_p2 : lw_okq (⟨"RecurrenceAnswers$LinearSystem", "scaleLine", "(II)V"⟩, 4) := ⟨⟨by decide +kernel, by decide +kernel⟩, List.mem_of_getElem? (i := 64) (by decide +kernel), List.mem_of_getElem? (i := 252) (by decide +kernel), List.mem_of_getElem? (i := 253) (by decide +kernel)⟩
theorem lw_p3 : lw_okq (⟨"RecurrenceAnswers$LinearSystem", "clearColumn", "(II)V"⟩, 4) := ⟨⟨by decide +kernel, by decide +kernel⟩, List.mem_of_getElem? (i := 64) (by decide +kernel), List.mem_of_getElem? (i := 256) (by decide +kernel), List.mem_of_getElem? (i := 257) (by decide +kernel)⟩
theorem lw_p4 : lw_okq (⟨"RecurrenceAnswers$Answers", "findBases", "(LRecurrenceAnswers$Equation;)V"⟩, 10) := ⟨⟨by decide +kernel, by decide +kernel⟩, List.mem_of_getElem? (i := 85) (by decide +kernel), List.mem_of_getElem? (i := 278) (by decide +kernel), List.mem_of_getElem? (i := 279) (by decide +kernel)⟩
theorem lw_p5 : lw_okq (⟨"RecurrenceAnswers$Answers", "collectTopNumbers", "(LRecurrenceAnswers$Equation;)V"⟩, 10) := ⟨⟨by decide +kernel, by decide +kernel⟩, List.mem_of_getElem? (i := 85) (by decide +kernel), List.mem_of_getElem? (i := 282) (by decide +kernel), List.mem_of_getElem? (i := 283) (by decide +kernel)⟩
theorem lw_p6 : lw_okq (⟨"RecurrenceAnswers$Roots", "keepSimpleRoots", "()V"⟩, 7) := ⟨⟨by decide +kernel, by decide +kernel⟩, List.mem_of_getElem? (i := 91) (by decide +kernel), List.mem_of_getElem? (i := 300) (by decide +kernel), List.mem_of_getElem? (i := 301) (by decide +kernel)⟩
theorem lw_p7 : lw_okq (⟨"RecurrenceAnswers$Roots", "raiseLinear", "(II[I)V"⟩, 7) := ⟨⟨by decide +kernel, by decide +kernel⟩, List.mem_of_getElem? (i := 91) (by decide +kernel), List.mem_of_getElem? (i := 305) (by decide +kernel), List.mem_of_getElem? (i := 306) (by decide +kernel)⟩
theorem lw_p8 : lw_okq (⟨"RecurrenceAnswers$Roots", "squarePower", "([I)V"⟩, 7) := ⟨⟨by decide +kernel, by decide +kernel⟩, List.mem_of_getElem? (i := 91) (by decide +kernel), List.mem_of_getElem? (i := 309) (by decide +kernel), List.mem_of_getElem? (i := 310) (by decide +kernel)⟩
theorem lw_p9 : lw_okq (⟨"RecurrenceAnswers$Roots", "splitOffRoot", "()I"⟩, 7) := ⟨⟨by decide +kernel, by decide +kernel⟩, List.mem_of_getElem? (i := 91) (by decide +kernel), List.mem_of_getElem? (i := 325) (by decide +kernel), List.mem_of_getElem? (i := 326) (by decide +kernel)⟩
theorem lw_p10 : lw_okq (⟨"RecurrenceAnswers$Roots", "insert", "(I)V"⟩, 7) := ⟨⟨by decide +kernel, by decide +kernel⟩, List.mem_of_getElem? (i := 91) (by decide +kernel), List.mem_of_getElem? (i := 330) (by decide +kernel), List.mem_of_getElem? (i := 331) (by decide +kernel)⟩
theorem lw_p11 : lw_okq (⟨"RecurrenceAnswers$Roots", "divideOut", "(I)V"⟩, 7) := ⟨⟨by decide +kernel, by decide +kernel⟩, List.mem_of_getElem? (i := 91) (by decide +kernel), List.mem_of_getElem? (i := 334) (by decide +kernel), List.mem_of_getElem? (i := 335) (by decide +kernel)⟩
theorem lw_p12 : lw_okq (⟨"RecurrenceAnswers", "forgetConclusions", "()V"⟩, 7) := ⟨⟨by decide +kernel, by decide +kernel⟩, List.mem_of_getElem? (i := 23) (by decide +kernel), List.mem_of_getElem? (i := 375) (by decide +kernel), List.mem_of_getElem? (i := 376) (by decide +kernel)⟩
theorem lw_p13 : lw_okq (⟨"java/lang/Throwable", "fillInStackTrace", "(I)Ljava/lang/Throwable;"⟩, 6) := ⟨⟨by decide +kernel, by decide +kernel⟩, List.mem_of_getElem? (i := 420) (by decide +kernel), List.mem_of_getElem? (i := 418) (by decide +kernel), List.mem_of_getElem? (i := 419) (by decide +kernel)⟩
theorem lw_p14 : lw_okq (⟨"RecurrenceAnswers", "change", "([III)Z"⟩, 7) := ⟨⟨by decide +kernel, by decide +kernel⟩, List.mem_of_getElem? (i := 23) (by decide +kernel), List.mem_of_getElem? (i := 512) (by decide +kernel), List.mem_of_getElem? (i := 513) (by decide +kernel)⟩
theorem lw_p15 : lw_okq (⟨"RecurrenceAnswers", "requireAnswers", "()V"⟩, 7) := ⟨⟨by decide +kernel, by decide +kernel⟩, List.mem_of_getElem? (i := 23) (by decide +kernel), List.mem_of_getElem? (i := 532) (by decide +kernel), List.mem_of_getElem? (i := 533) (by decide +kernel)⟩
def lw_privs_1 : List (MethodName × Nat) := [(⟨"RecurrenceAnswers$LinearSystem", "addFactor", "([III)V"⟩, 4), (⟨"RecurrenceAnswers$LinearSystem", "freeLine", "(I)I"⟩, 4), (⟨"RecurrenceAnswers$LinearSystem", "scaleLine", "(II)V"⟩, 4), (⟨"RecurrenceAnswers$LinearSystem", "clearColumn", "(II)V"⟩, 4), (⟨"RecurrenceAnswers$Answers", "findBases", "(LRecurrenceAnswers$Equation;)V"⟩, 10), (⟨"RecurrenceAnswers$Answers", "collectTopNumbers", "(LRecurrenceAnswers$Equation;)V"⟩, 10), (⟨"RecurrenceAnswers$Roots", "keepSimpleRoots", "()V"⟩, 7), (⟨"RecurrenceAnswers$Roots", "raiseLinear", "(II[I)V"⟩, 7), (⟨"RecurrenceAnswers$Roots", "squarePower", "([I)V"⟩, 7), (⟨"RecurrenceAnswers$Roots", "splitOffRoot", "()I"⟩, 7), (⟨"RecurrenceAnswers$Roots", "insert", "(I)V"⟩, 7), (⟨"RecurrenceAnswers$Roots", "divideOut", "(I)V"⟩, 7), (⟨"RecurrenceAnswers", "forgetConclusions", "()V"⟩, 7), (⟨"java/lang/Throwable", "fillInStackTrace", "(I)Ljava/lang/Throwable;"⟩, 6), (⟨"RecurrenceAnswers", "change", "([III)Z"⟩, 7), (⟨"RecurrenceAnswers", "requireAnswers", "()V"⟩, 7)]
theorem lw_r1 : ∀ q ∈ lw_privs_1, lw_okq q := List.forall_mem_cons.mpr ⟨lw_p0, List.forall_mem_cons.mpr ⟨lw_p1, List.forall_mem_cons.mpr ⟨lw_p2, List.forall_mem_cons.mpr ⟨lw_p3, List.forall_mem_cons.mpr ⟨lw_p4, List.forall_mem_cons.mpr ⟨lw_p5, List.forall_mem_cons.mpr ⟨lw_p6, List.forall_mem_cons.mpr ⟨lw_p7, List.forall_mem_cons.mpr ⟨lw_p8, List.forall_mem_cons.mpr ⟨lw_p9, List.forall_mem_cons.mpr ⟨lw_p10, List.forall_mem_cons.mpr ⟨lw_p11, List.forall_mem_cons.mpr ⟨lw_p12, List.forall_mem_cons.mpr ⟨lw_p13, List.forall_mem_cons.mpr ⟨lw_p14, List.forall_mem_cons.mpr ⟨lw_p15, fun _ h => absurd h List.not_mem_nil⟩⟩⟩⟩⟩⟩⟩⟩⟩⟩⟩⟩⟩⟩⟩⟩
theorem lw_p16 : lw_okq (⟨"RecurrenceAnswers$Values", "demand", "(LRecurrenceAnswers$Equation;II)I"⟩, 3) := ⟨⟨by decide +kernel, by decide +kernel⟩, List.mem_of_getElem? (i := 174) (by decide +kernel), List.mem_of_getElem? (i := 623) (by decide +kernel), List.mem_of_getElem? (i := 624) (by decide +kernel)⟩
theorem lw_p17 : lw_okq (⟨"RecurrenceAnswersModel", "greatest", "()I"⟩, 22) := ⟨⟨by decide +kernel, by decide +kernel⟩, List.mem_of_getElem? (i := 661) (by decide +kernel), List.mem_of_getElem? (i := 757) (by decide +kernel), List.mem_of_getElem? (i := 758) (by decide +kernel)⟩
theorem lw_p18 : lw_okq (⟨"RecurrenceAnswersModel", "fill", "(I)V"⟩, 22) := ⟨⟨by decide +kernel, by decide +kernel⟩, List.mem_of_getElem? (i := 661) (by decide +kernel), List.mem_of_getElem? (i := 761) (by decide +kernel), List.mem_of_getElem? (i := 762) (by decide +kernel)⟩
theorem lw_p19 : lw_okq (⟨"RecurrenceAnswersModel", "apply", "([II)V"⟩, 22) := ⟨⟨by decide +kernel, by decide +kernel⟩, List.mem_of_getElem? (i := 661) (by decide +kernel), List.mem_of_getElem? (i := 765) (by decide +kernel), List.mem_of_getElem? (i := 766) (by decide +kernel)⟩
theorem lw_p20 : lw_okq (⟨"RecurrenceAnswersModel", "shift", "([II)V"⟩, 22) := ⟨⟨by decide +kernel, by decide +kernel⟩, List.mem_of_getElem? (i := 661) (by decide +kernel), List.mem_of_getElem? (i := 769) (by decide +kernel), List.mem_of_getElem? (i := 770) (by decide +kernel)⟩
theorem lw_p21 : lw_okq (⟨"RecurrenceAnswersModel", "clears", "()I"⟩, 22) := ⟨⟨by decide +kernel, by decide +kernel⟩, List.mem_of_getElem? (i := 661) (by decide +kernel), List.mem_of_getElem? (i := 776) (by decide +kernel), List.mem_of_getElem? (i := 777) (by decide +kernel)⟩
theorem lw_p22 : lw_okq (⟨"RecurrenceAnswersModel", "answers", "([II)I"⟩, 22) := ⟨⟨by decide +kernel, by decide +kernel⟩, List.mem_of_getElem? (i := 661) (by decide +kernel), List.mem_of_getElem? (i := 780) (by decide +kernel), List.mem_of_getElem? (i := 781) (by decide +kernel)⟩
theorem lw_p23 : lw_okq (⟨"RecurrenceAnswersModel", "highest", "()I"⟩, 22) := ⟨⟨by decide +kernel, by decide +kernel⟩, List.mem_of_getElem? (i := 661) (by decide +kernel), List.mem_of_getElem? (i := 784) (by decide +kernel), List.mem_of_getElem? (i := 785) (by decide +kernel)⟩
theorem lw_p24 : lw_okq (⟨"RecurrenceAnswersModel", "unknown", "()Z"⟩, 22) := ⟨⟨by decide +kernel, by decide +kernel⟩, List.mem_of_getElem? (i := 661) (by decide +kernel), List.mem_of_getElem? (i := 792) (by decide +kernel), List.mem_of_getElem? (i := 793) (by decide +kernel)⟩
theorem lw_p25 : lw_okq (⟨"RecurrenceAnswersModel", "at", "([IIII)I"⟩, 22) := ⟨⟨by decide +kernel, by decide +kernel⟩, List.mem_of_getElem? (i := 661) (by decide +kernel), List.mem_of_getElem? (i := 828) (by decide +kernel), List.mem_of_getElem? (i := 829) (by decide +kernel)⟩
def lw_privs_2 : List (MethodName × Nat) := [(⟨"RecurrenceAnswers$Values", "demand", "(LRecurrenceAnswers$Equation;II)I"⟩, 3), (⟨"RecurrenceAnswersModel", "greatest", "()I"⟩, 22), (⟨"RecurrenceAnswersModel", "fill", "(I)V"⟩, 22), (⟨"RecurrenceAnswersModel", "apply", "([II)V"⟩, 22), (⟨"RecurrenceAnswersModel", "shift", "([II)V"⟩, 22), (⟨"RecurrenceAnswersModel", "clears", "()I"⟩, 22), (⟨"RecurrenceAnswersModel", "answers", "([II)I"⟩, 22), (⟨"RecurrenceAnswersModel", "highest", "()I"⟩, 22), (⟨"RecurrenceAnswersModel", "unknown", "()Z"⟩, 22), (⟨"RecurrenceAnswersModel", "at", "([IIII)I"⟩, 22)]
theorem lw_r2 : ∀ q ∈ lw_privs_2, lw_okq q := List.forall_mem_cons.mpr ⟨lw_p16, List.forall_mem_cons.mpr ⟨lw_p17, List.forall_mem_cons.mpr ⟨lw_p18, List.forall_mem_cons.mpr ⟨lw_p19, List.forall_mem_cons.mpr ⟨lw_p20, List.forall_mem_cons.mpr ⟨lw_p21, List.forall_mem_cons.mpr ⟨lw_p22, List.forall_mem_cons.mpr ⟨lw_p23, List.forall_mem_cons.mpr ⟨lw_p24, List.forall_mem_cons.mpr ⟨lw_p25, fun _ h => absurd h List.not_mem_nil⟩⟩⟩⟩⟩⟩⟩⟩⟩⟩
def lw_privs : List (MethodName × Nat) := lw_privs_1 ++ (lw_privs_2)
def lw_tbl : List Cond := k2_sels lw_privs ++ tables_1
theorem lw_privs_ok : ∀ q ∈ lw_privs, lw_okq q := by
  show ∀ q ∈ lw_privs_1 ++ (lw_privs_2), lw_okq q
  exact List.forall_mem_append.mpr ⟨lw_r1, lw_r2⟩
end
section
def RX0 : String := "RecurrenceAnswers$Answers"
def TX0 : u_T := fun k => match k with
  | 0 => ("RecurrenceAnswers$Answers", "system", "LRecurrenceAnswers$LinearSystem;", true)
  | 1 => ("RecurrenceAnswers$Answers", "candidates", "LRecurrenceAnswers$Roots;", true)
  | 2 => ("RecurrenceAnswers$Answers", "topNumbers", "[I", true)
  | 3 => ("RecurrenceAnswers$Answers", "known", "Z", false)
  | 4 => ("RecurrenceAnswers$Answers", "row", "LRecurrenceAnswers$Row;", true)
  | 5 => ("RecurrenceAnswers$Answers", "hasParticular", "Z", false)
  | 6 => ("RecurrenceAnswers$Answers", "particular", "[I", true)
  | 7 => ("RecurrenceAnswers$Answers", "baseCount", "I", false)
  | 8 => ("RecurrenceAnswers$Answers", "bases", "[I", true)
  | _ => ("RecurrenceAnswers$Answers", "baseRows", "[LRecurrenceAnswers$Row;", true)
def tyX0 : Nat → FieldType := fun k => match k with
  | 0 => .object "RecurrenceAnswers$LinearSystem"
  | 1 => .object "RecurrenceAnswers$Roots"
  | 2 => .array .int
  | 3 => .boolean
  | 4 => .object "RecurrenceAnswers$Row"
  | 5 => .boolean
  | 6 => .array .int
  | 7 => .int
  | 8 => .array .int
  | _ => .array (.object "RecurrenceAnswers$Row")
abbrev wsX00 : List Cond := u_ws RX0 TX0 10
theorem nmX0 : ∀ a, a < 10 → ∀ b, b < 10 → a ≠ b → (TX0 a).2.1 ≠ (TX0 b).2.1 := by decide +kernel
theorem tyX0_ok : ∀ k, k < 10 → parseFieldDescriptor (TX0 k).2.2.1 = some (tyX0 k) := by decide +kernel
abbrev cX0_init : ByteArray := prog_2_method_1_code
def yX0_init : MethodName := ⟨RX0, "<init>", "(LRecurrenceAnswers$LinearSystem;)V"⟩
abbrev cX0_hasBase : ByteArray := prog_2_method_2_code
def yX0_hasBase : MethodName := ⟨RX0, "hasBase", "(I)Z"⟩
abbrev cX0_find : ByteArray := prog_2_method_3_code
def yX0_find : MethodName := ⟨RX0, "find", "(LRecurrenceAnswers$Equation;)V"⟩
abbrev cX0_findBases : ByteArray := prog_2_method_4_code
def yX0_findBases : MethodName := ⟨RX0, "findBases", "(LRecurrenceAnswers$Equation;)V"⟩
abbrev cX0_collectTopNumbers : ByteArray := prog_2_method_5_code
def yX0_collectTopNumbers : MethodName := ⟨RX0, "collectTopNumbers", "(LRecurrenceAnswers$Equation;)V"⟩
def RX1 : String := "RecurrenceAnswers$Equation"
def TX1 : u_T := fun k => match k with
  | 0 => ("RecurrenceAnswers$Equation", "order", "I", true)
  | 1 => ("RecurrenceAnswers$Equation", "factors", "[[I", true)
  | _ => ("RecurrenceAnswers$Equation", "rightSide", "[I", true)
def tyX1 : Nat → FieldType := fun k => match k with
  | 0 => .int
  | 1 => .array (.array .int)
  | _ => .array .int
abbrev wsX10 : List Cond := u_ws RX1 TX1 3
theorem nmX1 : ∀ a, a < 3 → ∀ b, b < 3 → a ≠ b → (TX1 a).2.1 ≠ (TX1 b).2.1 := by decide +kernel
theorem tyX1_ok : ∀ k, k < 3 → parseFieldDescriptor (TX1 k).2.2.1 = some (tyX1 k) := by decide +kernel
abbrev cX1_init : ByteArray := prog_3_method_1_code
def yX1_init : MethodName := ⟨RX1, "<init>", "(I)V"⟩
abbrev cX1_leastShift : ByteArray := prog_3_method_2_code
def yX1_leastShift : MethodName := ⟨RX1, "leastShift", "()I"⟩
abbrev cX1_greatestShift : ByteArray := prog_3_method_3_code
def yX1_greatestShift : MethodName := ⟨RX1, "greatestShift", "()I"⟩
abbrev cX1_greatestDegree : ByteArray := prog_3_method_4_code
def yX1_greatestDegree : MethodName := ⟨RX1, "greatestDegree", "()I"⟩
abbrev cX1_empty : ByteArray := prog_3_method_5_code
def yX1_empty : MethodName := ⟨RX1, "empty", "()V"⟩
def RX2 : String := "RecurrenceAnswers$LinearSystem"
def TX2 : u_T := fun k => match k with
  | 0 => ("RecurrenceAnswers$LinearSystem", "cells", "[[I", true)
  | 1 => ("RecurrenceAnswers$LinearSystem", "lineUsed", "[Z", true)
  | 2 => ("RecurrenceAnswers$LinearSystem", "pivotLine", "[I", true)
  | _ => ("RecurrenceAnswers$LinearSystem", "term", "[I", true)
def tyX2 : Nat → FieldType := fun k => match k with
  | 0 => .array (.array .int)
  | 1 => .array .boolean
  | 2 => .array .int
  | _ => .array .int
abbrev wsX20 : List Cond := u_ws RX2 TX2 4
theorem nmX2 : ∀ a, a < 4 → ∀ b, b < 4 → a ≠ b → (TX2 a).2.1 ≠ (TX2 b).2.1 := by decide +kernel
theorem tyX2_ok : ∀ k, k < 4 → parseFieldDescriptor (TX2 k).2.2.1 = some (tyX2 k) := by decide +kernel
abbrev cX2_init : ByteArray := prog_4_method_1_code
def yX2_init : MethodName := ⟨RX2, "<init>", "()V"⟩
abbrev cX2_fill : ByteArray := prog_4_method_2_code
def yX2_fill : MethodName := ⟨RX2, "fill", "(LRecurrenceAnswers$Equation;I)V"⟩
abbrev cX2_addFactor : ByteArray := prog_4_method_3_code
def yX2_addFactor : MethodName := ⟨RX2, "addFactor", "([III)V"⟩
abbrev cX2_leftOver : ByteArray := prog_4_method_4_code
def yX2_leftOver : MethodName := ⟨RX2, "leftOver", "([II)I"⟩
abbrev cX2_eliminate : ByteArray := prog_4_method_5_code
def yX2_eliminate : MethodName := ⟨RX2, "eliminate", "()V"⟩
abbrev cX2_freeLine : ByteArray := prog_4_method_6_code
def yX2_freeLine : MethodName := ⟨RX2, "freeLine", "(I)I"⟩
abbrev cX2_scaleLine : ByteArray := prog_4_method_7_code
def yX2_scaleLine : MethodName := ⟨RX2, "scaleLine", "(II)V"⟩
abbrev cX2_clearColumn : ByteArray := prog_4_method_8_code
def yX2_clearColumn : MethodName := ⟨RX2, "clearColumn", "(II)V"⟩
abbrev cX2_copyRowTo : ByteArray := prog_4_method_9_code
def yX2_copyRowTo : MethodName := ⟨RX2, "copyRowTo", "(LRecurrenceAnswers$Row;)V"⟩
abbrev cX2_copyParticularTo : ByteArray := prog_4_method_10_code
def yX2_copyParticularTo : MethodName := ⟨RX2, "copyParticularTo", "([I)Z"⟩
def RX3 : String := "RecurrenceAnswers$Numbers"
def TX3 : u_T := fun k => match k with
  | _ => ("", "", "", false)
def tyX3 : Nat → FieldType := fun k => match k with
  | _ => .int
abbrev wsX30 : List Cond := u_ws RX3 TX3 0
theorem nmX3 : ∀ a, a < 0 → ∀ b, b < 0 → a ≠ b → (TX3 a).2.1 ≠ (TX3 b).2.1 := by decide +kernel
theorem tyX3_ok : ∀ k, k < 0 → parseFieldDescriptor (TX3 k).2.2.1 = some (tyX3 k) := by decide +kernel
abbrev cX3_of : ByteArray := prog_5_method_2_code
def yX3_of : MethodName := ⟨RX3, "of", "(J)I"⟩
abbrev cX3_inverse : ByteArray := prog_5_method_3_code
def yX3_inverse : MethodName := ⟨RX3, "inverse", "(I)I"⟩
abbrev cX3_quotient : ByteArray := prog_5_method_4_code
def yX3_quotient : MethodName := ⟨RX3, "quotient", "(JJ)I"⟩
abbrev cX3_negative : ByteArray := prog_5_method_5_code
def yX3_negative : MethodName := ⟨RX3, "negative", "(I)I"⟩
abbrev cX3_less : ByteArray := prog_5_method_6_code
def yX3_less : MethodName := ⟨RX3, "less", "(III)I"⟩
def RX4 : String := "RecurrenceAnswers$Polynomials"
def TX4 : u_T := fun k => match k with
  | _ => ("", "", "", false)
def tyX4 : Nat → FieldType := fun k => match k with
  | _ => .int
abbrev wsX40 : List Cond := u_ws RX4 TX4 0
theorem nmX4 : ∀ a, a < 0 → ∀ b, b < 0 → a ≠ b → (TX4 a).2.1 ≠ (TX4 b).2.1 := by decide +kernel
theorem tyX4_ok : ∀ k, k < 0 → parseFieldDescriptor (TX4 k).2.2.1 = some (tyX4 k) := by decide +kernel
abbrev cX4_degree : ByteArray := prog_6_method_2_code
def yX4_degree : MethodName := ⟨RX4, "degree", "([I)I"⟩
abbrev cX4_valueAt : ByteArray := prog_6_method_3_code
def yX4_valueAt : MethodName := ⟨RX4, "valueAt", "([II)I"⟩
abbrev cX4_makeMonic : ByteArray := prog_6_method_4_code
def yX4_makeMonic : MethodName := ⟨RX4, "makeMonic", "([I)V"⟩
abbrev cX4_multiplyByLinear : ByteArray := prog_6_method_5_code
def yX4_multiplyByLinear : MethodName := ⟨RX4, "multiplyByLinear", "([II)V"⟩
abbrev cX4_reduceBy : ByteArray := prog_6_method_6_code
def yX4_reduceBy : MethodName := ⟨RX4, "reduceBy", "([I[I)V"⟩
def RX5 : String := "RecurrenceAnswers$Roots"
def TX5 : u_T := fun k => match k with
  | 0 => ("RecurrenceAnswers$Roots", "found", "[I", true)
  | 1 => ("RecurrenceAnswers$Roots", "remaining", "[I", true)
  | 2 => ("RecurrenceAnswers$Roots", "part", "[I", true)
  | 3 => ("RecurrenceAnswers$Roots", "piece", "[I", true)
  | 4 => ("RecurrenceAnswers$Roots", "power", "[I", true)
  | 5 => ("RecurrenceAnswers$Roots", "square", "[I", true)
  | _ => ("RecurrenceAnswers$Roots", "count", "I", false)
def tyX5 : Nat → FieldType := fun k => match k with
  | 0 => .array .int
  | 1 => .array .int
  | 2 => .array .int
  | 3 => .array .int
  | 4 => .array .int
  | 5 => .array .int
  | _ => .int
abbrev wsX50 : List Cond := u_ws RX5 TX5 7
theorem nmX5 : ∀ a, a < 7 → ∀ b, b < 7 → a ≠ b → (TX5 a).2.1 ≠ (TX5 b).2.1 := by decide +kernel
theorem tyX5_ok : ∀ k, k < 7 → parseFieldDescriptor (TX5 k).2.2.1 = some (tyX5 k) := by decide +kernel
abbrev cX5_init : ByteArray := prog_7_method_1_code
def yX5_init : MethodName := ⟨RX5, "<init>", "()V"⟩
abbrev cX5_at : ByteArray := prog_7_method_2_code
def yX5_at : MethodName := ⟨RX5, "at", "(I)I"⟩
abbrev cX5_find : ByteArray := prog_7_method_3_code
def yX5_find : MethodName := ⟨RX5, "find", "([I)V"⟩
abbrev cX5_keepSimpleRoots : ByteArray := prog_7_method_4_code
def yX5_keepSimpleRoots : MethodName := ⟨RX5, "keepSimpleRoots", "()V"⟩
abbrev cX5_splitOffRoot : ByteArray := prog_7_method_5_code
def yX5_splitOffRoot : MethodName := ⟨RX5, "splitOffRoot", "()I"⟩
abbrev cX5_raiseLinear : ByteArray := prog_7_method_6_code
def yX5_raiseLinear : MethodName := ⟨RX5, "raiseLinear", "(II[I)V"⟩
abbrev cX5_squarePower : ByteArray := prog_7_method_7_code
def yX5_squarePower : MethodName := ⟨RX5, "squarePower", "([I)V"⟩
abbrev cX5_keepCommonDivisor : ByteArray := prog_7_method_8_code
def yX5_keepCommonDivisor : MethodName := ⟨RX5, "keepCommonDivisor", "([I[I)V"⟩
abbrev cX5_insert : ByteArray := prog_7_method_9_code
def yX5_insert : MethodName := ⟨RX5, "insert", "(I)V"⟩
abbrev cX5_divideOut : ByteArray := prog_7_method_10_code
def yX5_divideOut : MethodName := ⟨RX5, "divideOut", "(I)V"⟩
def RX6 : String := "RecurrenceAnswers$Row"
def TX6 : u_T := fun k => match k with
  | 0 => ("RecurrenceAnswers$Row", "numbers", "[I", true)
  | _ => ("RecurrenceAnswers$Row", "size", "I", false)
def tyX6 : Nat → FieldType := fun k => match k with
  | 0 => .array .int
  | _ => .int
abbrev wsX60 : List Cond := u_ws RX6 TX6 2
theorem nmX6 : ∀ a, a < 2 → ∀ b, b < 2 → a ≠ b → (TX6 a).2.1 ≠ (TX6 b).2.1 := by decide +kernel
theorem tyX6_ok : ∀ k, k < 2 → parseFieldDescriptor (TX6 k).2.2.1 = some (tyX6 k) := by decide +kernel
abbrev cX6_init : ByteArray := prog_8_method_1_code
def yX6_init : MethodName := ⟨RX6, "<init>", "()V"⟩
abbrev cX6_numberAt : ByteArray := prog_8_method_2_code
def yX6_numberAt : MethodName := ⟨RX6, "numberAt", "(II)I"⟩
abbrev cX6_setNumberAt : ByteArray := prog_8_method_3_code
def yX6_setNumberAt : MethodName := ⟨RX6, "setNumberAt", "(III)V"⟩
def RX7 : String := "RecurrenceAnswers$Values"
def TX7 : u_T := fun k => match k with
  | 0 => ("RecurrenceAnswers$Values", "numbers", "[I", true)
  | 1 => ("RecurrenceAnswers$Values", "starts", "I", false)
  | _ => ("RecurrenceAnswers$Values", "known", "I", false)
def tyX7 : Nat → FieldType := fun k => match k with
  | 0 => .array .int
  | 1 => .int
  | _ => .int
abbrev wsX70 : List Cond := u_ws RX7 TX7 3
theorem nmX7 : ∀ a, a < 3 → ∀ b, b < 3 → a ≠ b → (TX7 a).2.1 ≠ (TX7 b).2.1 := by decide +kernel
theorem tyX7_ok : ∀ k, k < 3 → parseFieldDescriptor (TX7 k).2.2.1 = some (tyX7 k) := by decide +kernel
abbrev cX7_init : ByteArray := prog_9_method_1_code
def yX7_init : MethodName := ⟨RX7, "<init>", "()V"⟩
abbrev cX7_addStart : ByteArray := prog_9_method_2_code
def yX7_addStart : MethodName := ⟨RX7, "addStart", "(I)Z"⟩
abbrev cX7_forgetConclusions : ByteArray := prog_9_method_3_code
def yX7_forgetConclusions : MethodName := ⟨RX7, "forgetConclusions", "()V"⟩
abbrev cX7_empty : ByteArray := prog_9_method_4_code
def yX7_empty : MethodName := ⟨RX7, "empty", "()V"⟩
abbrev cX7_at : ByteArray := prog_9_method_5_code
def yX7_at : MethodName := ⟨RX7, "at", "(LRecurrenceAnswers$Equation;I)I"⟩
abbrev cX7_demand : ByteArray := prog_9_method_6_code
def yX7_demand : MethodName := ⟨RX7, "demand", "(LRecurrenceAnswers$Equation;II)I"⟩
def RX8 : String := "RecurrenceAnswers"
def TX8 : u_T := fun k => match k with
  | 0 => ("RecurrenceAnswers", "equation", "LRecurrenceAnswers$Equation;", true)
  | 1 => ("RecurrenceAnswers", "system", "LRecurrenceAnswers$LinearSystem;", true)
  | 2 => ("RecurrenceAnswers", "answers", "LRecurrenceAnswers$Answers;", true)
  | 3 => ("RecurrenceAnswers", "values", "LRecurrenceAnswers$Values;", true)
  | 4 => ("RecurrenceAnswers", "zeros", "LRecurrenceAnswers$Roots;", true)
  | 5 => ("RecurrenceAnswers", "zerosKnown", "Z", false)
  | _ => ("RecurrenceAnswers", "trial", "[I", true)
def tyX8 : Nat → FieldType := fun k => match k with
  | 0 => .object "RecurrenceAnswers$Equation"
  | 1 => .object "RecurrenceAnswers$LinearSystem"
  | 2 => .object "RecurrenceAnswers$Answers"
  | 3 => .object "RecurrenceAnswers$Values"
  | 4 => .object "RecurrenceAnswers$Roots"
  | 5 => .boolean
  | _ => .array .int
abbrev wsX80 : List Cond := u_ws RX8 TX8 7
theorem nmX8 : ∀ a, a < 7 → ∀ b, b < 7 → a ≠ b → (TX8 a).2.1 ≠ (TX8 b).2.1 := by decide +kernel
theorem tyX8_ok : ∀ k, k < 7 → parseFieldDescriptor (TX8 k).2.2.1 = some (tyX8 k) := by decide +kernel
abbrev cX8_init : ByteArray := prog_1_method_1_code
def yX8_init : MethodName := ⟨RX8, "<init>", "(I)V"⟩
abbrev cX8_factor : ByteArray := prog_1_method_2_code
def yX8_factor : MethodName := ⟨RX8, "factor", "(IIJJ)Z"⟩
abbrev cX8_right : ByteArray := prog_1_method_3_code
def yX8_right : MethodName := ⟨RX8, "right", "(IJJ)Z"⟩
abbrev cX8_run : ByteArray := prog_1_method_4_code
def yX8_run : MethodName := ⟨RX8, "run", "()I"⟩
abbrev cX8_polynomials : ByteArray := prog_1_method_5_code
def yX8_polynomials : MethodName := ⟨RX8, "polynomials", "()I"⟩
abbrev cX8_answer : ByteArray := prog_1_method_6_code
def yX8_answer : MethodName := ⟨RX8, "answer", "(II)I"⟩
abbrev cX8_meets : ByteArray := prog_1_method_7_code
def yX8_meets : MethodName := ⟨RX8, "meets", "()Z"⟩
abbrev cX8_powers : ByteArray := prog_1_method_8_code
def yX8_powers : MethodName := ⟨RX8, "powers", "()I"⟩
abbrev cX8_base : ByteArray := prog_1_method_9_code
def yX8_base : MethodName := ⟨RX8, "base", "(I)I"⟩
abbrev cX8_many : ByteArray := prog_1_method_10_code
def yX8_many : MethodName := ⟨RX8, "many", "(I)I"⟩
abbrev cX8_times : ByteArray := prog_1_method_11_code
def yX8_times : MethodName := ⟨RX8, "times", "(III)I"⟩
abbrev cX8_start : ByteArray := prog_1_method_12_code
def yX8_start : MethodName := ⟨RX8, "start", "(J)Z"⟩
abbrev cX8_value : ByteArray := prog_1_method_13_code
def yX8_value : MethodName := ⟨RX8, "value", "(I)I"⟩
abbrev cX8_singular : ByteArray := prog_1_method_14_code
def yX8_singular : MethodName := ⟨RX8, "singular", "(I)I"⟩
abbrev cX8_end : ByteArray := prog_1_method_15_code
def yX8_end : MethodName := ⟨RX8, "end", "(I)I"⟩
abbrev cX8_rest : ByteArray := prog_1_method_16_code
def yX8_rest : MethodName := ⟨RX8, "rest", "(I)I"⟩
abbrev cX8_put : ByteArray := prog_1_method_17_code
def yX8_put : MethodName := ⟨RX8, "put", "(II)Z"⟩
abbrev cX8_clear : ByteArray := prog_1_method_18_code
def yX8_clear : MethodName := ⟨RX8, "clear", "()V"⟩
abbrev cX8_change : ByteArray := prog_1_method_19_code
def yX8_change : MethodName := ⟨RX8, "change", "([III)Z"⟩
abbrev cX8_forgetConclusions : ByteArray := prog_1_method_20_code
def yX8_forgetConclusions : MethodName := ⟨RX8, "forgetConclusions", "()V"⟩
abbrev cX8_requireAnswers : ByteArray := prog_1_method_21_code
def yX8_requireAnswers : MethodName := ⟨RX8, "requireAnswers", "()V"⟩
abbrev cX8_requireAnswerPower : ByteArray := prog_1_method_22_code
def yX8_requireAnswerPower : MethodName := ⟨RX8, "requireAnswerPower", "(I)V"⟩
def RX9 : String := "RecurrenceAnswersModel"
def TX9 : u_T := fun k => match k with
  | 0 => ("RecurrenceAnswersModel", "thrownCode", "I", false)
  | 1 => ("RecurrenceAnswersModel", "order", "I", true)
  | 2 => ("RecurrenceAnswersModel", "factors", "[I", true)
  | 3 => ("RecurrenceAnswersModel", "side", "[I", true)
  | 4 => ("RecurrenceAnswersModel", "starts", "[I", true)
  | 5 => ("RecurrenceAnswersModel", "started", "I", false)
  | 6 => ("RecurrenceAnswersModel", "puts", "[I", true)
  | 7 => ("RecurrenceAnswersModel", "values", "[I", true)
  | 8 => ("RecurrenceAnswersModel", "known", "Z", false)
  | 9 => ("RecurrenceAnswersModel", "polynomials", "I", false)
  | 10 => ("RecurrenceAnswersModel", "row", "[I", true)
  | 11 => ("RecurrenceAnswersModel", "meets", "Z", false)
  | 12 => ("RecurrenceAnswersModel", "particular", "[I", true)
  | 13 => ("RecurrenceAnswersModel", "powers", "I", false)
  | 14 => ("RecurrenceAnswersModel", "bases", "[I", true)
  | 15 => ("RecurrenceAnswersModel", "many", "[I", true)
  | 16 => ("RecurrenceAnswersModel", "times", "[I", true)
  | 17 => ("RecurrenceAnswersModel", "table", "[I", true)
  | 18 => ("RecurrenceAnswersModel", "image", "[I", true)
  | 19 => ("RecurrenceAnswersModel", "shifted", "[I", true)
  | 20 => ("RecurrenceAnswersModel", "pivot", "[I", true)
  | _ => ("RecurrenceAnswersModel", "unit", "[I", true)
def tyX9 : Nat → FieldType := fun k => match k with
  | 0 => .int
  | 1 => .int
  | 2 => .array .int
  | 3 => .array .int
  | 4 => .array .int
  | 5 => .int
  | 6 => .array .int
  | 7 => .array .int
  | 8 => .boolean
  | 9 => .int
  | 10 => .array .int
  | 11 => .boolean
  | 12 => .array .int
  | 13 => .int
  | 14 => .array .int
  | 15 => .array .int
  | 16 => .array .int
  | 17 => .array .int
  | 18 => .array .int
  | 19 => .array .int
  | 20 => .array .int
  | _ => .array .int
abbrev wsX90 : List Cond := u_ws RX9 TX9 22
theorem nmX9 : ∀ a, a < 22 → ∀ b, b < 22 → a ≠ b → (TX9 a).2.1 ≠ (TX9 b).2.1 := by decide +kernel
theorem tyX9_ok : ∀ k, k < 22 → parseFieldDescriptor (TX9 k).2.2.1 = some (tyX9 k) := by decide +kernel
abbrev cX9_init : ByteArray := prog_11_method_1_code
def yX9_init : MethodName := ⟨RX9, "<init>", "(I)V"⟩
abbrev cX9_power : ByteArray := prog_11_method_2_code
def yX9_power : MethodName := ⟨RX9, "power", "(II)I"⟩
abbrev cX9_inverse : ByteArray := prog_11_method_3_code
def yX9_inverse : MethodName := ⟨RX9, "inverse", "(I)I"⟩
abbrev cX9_modulo : ByteArray := prog_11_method_4_code
def yX9_modulo : MethodName := ⟨RX9, "modulo", "(J)I"⟩
abbrev cX9_at : ByteArray := prog_11_method_5_code
def yX9_at : MethodName := ⟨RX9, "at", "([IIII)I"⟩
abbrev cX9_apply : ByteArray := prog_11_method_6_code
def yX9_apply : MethodName := ⟨RX9, "apply", "([II)V"⟩
abbrev cX9_shift : ByteArray := prog_11_method_7_code
def yX9_shift : MethodName := ⟨RX9, "shift", "([II)V"⟩
abbrev cX9_fill : ByteArray := prog_11_method_8_code
def yX9_fill : MethodName := ⟨RX9, "fill", "(I)V"⟩
abbrev cX9_clears : ByteArray := prog_11_method_9_code
def yX9_clears : MethodName := ⟨RX9, "clears", "()I"⟩
abbrev cX9_answers : ByteArray := prog_11_method_10_code
def yX9_answers : MethodName := ⟨RX9, "answers", "([II)I"⟩
abbrev cX9_greatest : ByteArray := prog_11_method_11_code
def yX9_greatest : MethodName := ⟨RX9, "greatest", "()I"⟩
abbrev cX9_highest : ByteArray := prog_11_method_12_code
def yX9_highest : MethodName := ⟨RX9, "highest", "()I"⟩
abbrev cX9_thrown : ByteArray := prog_11_method_13_code
def yX9_thrown : MethodName := ⟨RX9, "thrown", "()I"⟩
abbrev cX9_factor : ByteArray := prog_11_method_14_code
def yX9_factor : MethodName := ⟨RX9, "factor", "(IIJJ)Z"⟩
abbrev cX9_right : ByteArray := prog_11_method_15_code
def yX9_right : MethodName := ⟨RX9, "right", "(IJJ)Z"⟩
abbrev cX9_run : ByteArray := prog_11_method_16_code
def yX9_run : MethodName := ⟨RX9, "run", "()I"⟩
abbrev cX9_unknown : ByteArray := prog_11_method_17_code
def yX9_unknown : MethodName := ⟨RX9, "unknown", "()Z"⟩
abbrev cX9_polynomials : ByteArray := prog_11_method_18_code
def yX9_polynomials : MethodName := ⟨RX9, "polynomials", "()I"⟩
abbrev cX9_answer : ByteArray := prog_11_method_19_code
def yX9_answer : MethodName := ⟨RX9, "answer", "(II)I"⟩
abbrev cX9_meets : ByteArray := prog_11_method_20_code
def yX9_meets : MethodName := ⟨RX9, "meets", "()Z"⟩
abbrev cX9_powers : ByteArray := prog_11_method_21_code
def yX9_powers : MethodName := ⟨RX9, "powers", "()I"⟩
abbrev cX9_base : ByteArray := prog_11_method_22_code
def yX9_base : MethodName := ⟨RX9, "base", "(I)I"⟩
abbrev cX9_many : ByteArray := prog_11_method_23_code
def yX9_many : MethodName := ⟨RX9, "many", "(I)I"⟩
abbrev cX9_times : ByteArray := prog_11_method_24_code
def yX9_times : MethodName := ⟨RX9, "times", "(III)I"⟩
abbrev cX9_start : ByteArray := prog_11_method_25_code
def yX9_start : MethodName := ⟨RX9, "start", "(J)Z"⟩
abbrev cX9_value : ByteArray := prog_11_method_26_code
def yX9_value : MethodName := ⟨RX9, "value", "(I)I"⟩
abbrev cX9_singular : ByteArray := prog_11_method_27_code
def yX9_singular : MethodName := ⟨RX9, "singular", "(I)I"⟩
abbrev cX9_end : ByteArray := prog_11_method_28_code
def yX9_end : MethodName := ⟨RX9, "end", "(I)I"⟩
abbrev cX9_rest : ByteArray := prog_11_method_29_code
def yX9_rest : MethodName := ⟨RX9, "rest", "(I)I"⟩
abbrev cX9_put : ByteArray := prog_11_method_30_code
def yX9_put : MethodName := ⟨RX9, "put", "(II)Z"⟩
abbrev cX9_clear : ByteArray := prog_11_method_31_code
def yX9_clear : MethodName := ⟨RX9, "clear", "()V"⟩
def RJx00060 : String := "java/lang/ArrayIndexOutOfBoundsException"
def TJx00060 : u_T := fun k => match k with
  | 0 => ("java/lang/Throwable", "backtrace", "Ljava/lang/Object;", false)
  | 1 => ("java/lang/Throwable", "detailMessage", "Ljava/lang/String;", false)
  | 2 => ("java/lang/Throwable", "cause", "Ljava/lang/Throwable;", false)
  | 3 => ("java/lang/Throwable", "stackTrace", "[Ljava/lang/StackTraceElement;", false)
  | 4 => ("java/lang/Throwable", "depth", "I", false)
  | _ => ("java/lang/Throwable", "suppressedExceptions", "Ljava/util/List;", false)
def tyJx00060 : Nat → FieldType := fun k => match k with
  | 0 => .object "java/lang/Object"
  | 1 => .object "java/lang/String"
  | 2 => .object "java/lang/Throwable"
  | 3 => .array (.object "java/lang/StackTraceElement")
  | 4 => .int
  | _ => .object "java/util/List"
abbrev wsJx000600 : List Cond := u_ws RJx00060 TJx00060 6
theorem nmJx00060 : ∀ a, a < 6 → ∀ b, b < 6 → a ≠ b → (TJx00060 a).2.1 ≠ (TJx00060 b).2.1 := by decide +kernel
theorem tyJx00060_ok : ∀ k, k < 6 → parseFieldDescriptor (TJx00060 k).2.2.1 = some (tyJx00060 k) := by decide +kernel
abbrev cJx00060_init_a7421 : ByteArray := prog_13_method_2_code
def yJx00060_init_a7421 : MethodName := ⟨RJx00060, "<init>", "(Ljava/lang/String;)V"⟩
def RJ9 : String := "java/lang/Math"
def TJ9 : u_T := fun k => match k with
  | _ => ("", "", "", false)
def tyJ9 : Nat → FieldType := fun k => match k with
  | _ => .int
abbrev wsJ90 : List Cond := u_ws RJ9 TJ9 0
theorem nmJ9 : ∀ a, a < 0 → ∀ b, b < 0 → a ≠ b → (TJ9 a).2.1 ≠ (TJ9 b).2.1 := by decide +kernel
theorem tyJ9_ok : ∀ k, k < 0 → parseFieldDescriptor (TJ9 k).2.2.1 = some (tyJ9 k) := by decide +kernel
abbrev cJ9_floorMod_f86c9 : ByteArray := prog_18_method_52_code
def yJ9_floorMod_f86c9 : MethodName := ⟨RJ9, "floorMod", "(JJ)J"⟩
abbrev cJ9_max_7cf53 : ByteArray := prog_18_method_65_code
def yJ9_max_7cf53 : MethodName := ⟨RJ9, "max", "(II)I"⟩
abbrev cJ9_min_7cf53 : ByteArray := prog_18_method_69_code
def yJ9_min_7cf53 : MethodName := ⟨RJ9, "min", "(II)I"⟩
def RJ0 : String := "java/lang/String"
def TJ0 : u_T := fun k => match k with
  | 0 => ("java/lang/String", "value", "[B", true)
  | _ => ("java/lang/String", "coder", "B", true)
def tyJ0 : Nat → FieldType := fun k => match k with
  | 0 => .array .byte
  | _ => .byte
abbrev wsJ00 : List Cond := u_ws RJ0 TJ0 2
theorem nmJ0 : ∀ a, a < 2 → ∀ b, b < 2 → a ≠ b → (TJ0 a).2.1 ≠ (TJ0 b).2.1 := by decide +kernel
theorem tyJ0_ok : ∀ k, k < 2 → parseFieldDescriptor (TJ0 k).2.2.1 = some (tyJ0 k) := by decide +kernel
def RJ10 : String := "java/lang/System"
def TJ10 : u_T := fun k => match k with
  | _ => ("", "", "", false)
def tyJ10 : Nat → FieldType := fun k => match k with
  | _ => .int
abbrev wsJ100 : List Cond := u_ws RJ10 TJ10 0
theorem nmJ10 : ∀ a, a < 0 → ∀ b, b < 0 → a ≠ b → (TJ10 a).2.1 ≠ (TJ10 b).2.1 := by decide +kernel
theorem tyJ10_ok : ∀ k, k < 0 → parseFieldDescriptor (TJ10 k).2.2.1 = some (tyJ10 k) := by decide +kernel
def RL : String := "RecurrenceAnswersLaw"
abbrev cL_cell : ByteArray := method_2_code
def yL_cell : MethodName := ⟨RL, "cell", "([II)I"⟩
abbrev cL_factor : ByteArray := method_3_code
def yL_factor : MethodName := ⟨RL, "factor", "(LRecurrenceAnswers;IIJJ[J)I"⟩
abbrev cL_right : ByteArray := method_4_code
def yL_right : MethodName := ⟨RL, "right", "(LRecurrenceAnswers;IJJ[J)I"⟩
abbrev cL_polynomials : ByteArray := method_5_code
def yL_polynomials : MethodName := ⟨RL, "polynomials", "(LRecurrenceAnswers;[J)I"⟩
abbrev cL_answer : ByteArray := method_6_code
def yL_answer : MethodName := ⟨RL, "answer", "(LRecurrenceAnswers;II[J)I"⟩
abbrev cL_meets : ByteArray := method_7_code
def yL_meets : MethodName := ⟨RL, "meets", "(LRecurrenceAnswers;[J)I"⟩
abbrev cL_powers : ByteArray := method_8_code
def yL_powers : MethodName := ⟨RL, "powers", "(LRecurrenceAnswers;[J)I"⟩
abbrev cL_base : ByteArray := method_9_code
def yL_base : MethodName := ⟨RL, "base", "(LRecurrenceAnswers;I[J)I"⟩
abbrev cL_many : ByteArray := method_10_code
def yL_many : MethodName := ⟨RL, "many", "(LRecurrenceAnswers;I[J)I"⟩
abbrev cL_times : ByteArray := method_11_code
def yL_times : MethodName := ⟨RL, "times", "(LRecurrenceAnswers;III[J)I"⟩
abbrev cL_value : ByteArray := method_12_code
def yL_value : MethodName := ⟨RL, "value", "(LRecurrenceAnswers;I[J)I"⟩
abbrev cL_end : ByteArray := method_13_code
def yL_end : MethodName := ⟨RL, "end", "(LRecurrenceAnswers;I[J)I"⟩
abbrev cL_rest : ByteArray := method_14_code
def yL_rest : MethodName := ⟨RL, "rest", "(LRecurrenceAnswers;I[J)I"⟩
abbrev cL_put : ByteArray := method_15_code
def yL_put : MethodName := ⟨RL, "put", "(LRecurrenceAnswers;II[J)I"⟩
abbrev cL_law : ByteArray := code
def yL_law : MethodName := ⟨RL, "law", "([I)Z"⟩
abbrev vwCl : List vw_C := [(RJ0, TJ0, 2), (RJx00060, TJx00060, 6), (RX0, TX0, 10), (RX1, TX1, 3), (RX2, TX2, 4), (RX5, TX5, 7), (RX6, TX6, 2), (RX7, TX7, 3), (RX8, TX8, 7), (RX9, TX9, 22)]
end
section
theorem dX0_init_0 : decode cX0_init 0 = .ok (.aload_n 0, 1) := by decide +kernel
theorem dX0_init_1 : decode cX0_init 1 = .ok (.invokespecial 3, 3) := by decide +kernel
theorem dX0_init_4 : decode cX0_init 4 = .ok (.aload_n 0, 1) := by decide +kernel
theorem dX0_init_5 : decode cX0_init 5 = .ok (.new 9, 3) := by decide +kernel
theorem dX0_init_8 : decode cX0_init 8 = .ok (.dup, 1) := by decide +kernel
theorem dX0_init_9 : decode cX0_init 9 = .ok (.invokespecial 11, 3) := by decide +kernel
theorem dX0_init_12 : decode cX0_init 12 = .ok (.putfield 12, 3) := by decide +kernel
theorem dX0_init_15 : decode cX0_init 15 = .ok (.aload_n 0, 1) := by decide +kernel
theorem dX0_init_16 : decode cX0_init 16 = .ok (.bipush 7, 2) := by decide +kernel
theorem dX0_init_18 : decode cX0_init 18 = .ok (.newarray .int, 2) := by decide +kernel
theorem dX0_init_20 : decode cX0_init 20 = .ok (.putfield 18, 3) := by decide +kernel
theorem dX0_init_23 : decode cX0_init 23 = .ok (.aload_n 0, 1) := by decide +kernel
theorem dX0_init_24 : decode cX0_init 24 = .ok (.new 22, 3) := by decide +kernel
theorem dX0_init_27 : decode cX0_init 27 = .ok (.dup, 1) := by decide +kernel
theorem dX0_init_28 : decode cX0_init 28 = .ok (.invokespecial 24, 3) := by decide +kernel
theorem dX0_init_31 : decode cX0_init 31 = .ok (.putfield 25, 3) := by decide +kernel
theorem dX0_init_34 : decode cX0_init 34 = .ok (.aload_n 0, 1) := by decide +kernel
theorem dX0_init_35 : decode cX0_init 35 = .ok (.bipush 13, 2) := by decide +kernel
theorem dX0_init_37 : decode cX0_init 37 = .ok (.newarray .int, 2) := by decide +kernel
theorem dX0_init_39 : decode cX0_init 39 = .ok (.putfield 29, 3) := by decide +kernel
theorem dX0_init_42 : decode cX0_init 42 = .ok (.aload_n 0, 1) := by decide +kernel
theorem dX0_init_43 : decode cX0_init 43 = .ok (.iconst 4, 1) := by decide +kernel
theorem dX0_init_44 : decode cX0_init 44 = .ok (.newarray .int, 2) := by decide +kernel
theorem dX0_init_46 : decode cX0_init 46 = .ok (.putfield 32, 3) := by decide +kernel
theorem dX0_init_49 : decode cX0_init 49 = .ok (.aload_n 0, 1) := by decide +kernel
theorem dX0_init_50 : decode cX0_init 50 = .ok (.iconst 4, 1) := by decide +kernel
theorem dX0_init_51 : decode cX0_init 51 = .ok (.anewarray 22, 3) := by decide +kernel
theorem dX0_init_54 : decode cX0_init 54 = .ok (.putfield 35, 3) := by decide +kernel
theorem dX0_init_57 : decode cX0_init 57 = .ok (.aload_n 0, 1) := by decide +kernel
theorem dX0_init_58 : decode cX0_init 58 = .ok (.aload_n 1, 1) := by decide +kernel
theorem dX0_init_59 : decode cX0_init 59 = .ok (.putfield 39, 3) := by decide +kernel
theorem dX0_init_62 : decode cX0_init 62 = .ok (.iconst 0, 1) := by decide +kernel
theorem dX0_init_63 : decode cX0_init 63 = .ok (.istore_n 2, 1) := by decide +kernel
theorem dX0_init_64 : decode cX0_init 64 = .ok (.iload_n 2, 1) := by decide +kernel
theorem dX0_init_65 : decode cX0_init 65 = .ok (.iconst 4, 1) := by decide +kernel
theorem dX0_init_66 : decode cX0_init 66 = .ok (.if_icmp .ge 22, 3) := by decide +kernel
theorem dX0_init_69 : decode cX0_init 69 = .ok (.aload_n 0, 1) := by decide +kernel
theorem dX0_init_70 : decode cX0_init 70 = .ok (.getfield 35, 3) := by decide +kernel
theorem dX0_init_73 : decode cX0_init 73 = .ok (.iload_n 2, 1) := by decide +kernel
theorem dX0_init_74 : decode cX0_init 74 = .ok (.new 22, 3) := by decide +kernel
theorem dX0_init_77 : decode cX0_init 77 = .ok (.dup, 1) := by decide +kernel
theorem dX0_init_78 : decode cX0_init 78 = .ok (.invokespecial 24, 3) := by decide +kernel
theorem dX0_init_81 : decode cX0_init 81 = .ok (.aastore, 1) := by decide +kernel
theorem dX0_init_82 : decode cX0_init 82 = .ok (.iinc 2 1, 3) := by decide +kernel
theorem dX0_init_85 : decode cX0_init 85 = .ok (.goto (-21), 3) := by decide +kernel
theorem dX0_init_88 : decode cX0_init 88 = .ok (.return_, 1) := by decide +kernel
theorem dX0_hasBase_0 : decode cX0_hasBase 0 = .ok (.iload_n 1, 1) := by decide +kernel
theorem dX0_hasBase_1 : decode cX0_hasBase 1 = .ok (.ifCond .lt 15, 3) := by decide +kernel
theorem dX0_hasBase_4 : decode cX0_hasBase 4 = .ok (.iload_n 1, 1) := by decide +kernel
theorem dX0_hasBase_5 : decode cX0_hasBase 5 = .ok (.aload_n 0, 1) := by decide +kernel
theorem dX0_hasBase_6 : decode cX0_hasBase 6 = .ok (.getfield 43, 3) := by decide +kernel
theorem dX0_hasBase_9 : decode cX0_hasBase 9 = .ok (.if_icmp .ge 7, 3) := by decide +kernel
theorem dX0_hasBase_12 : decode cX0_hasBase 12 = .ok (.iconst 1, 1) := by decide +kernel
theorem dX0_hasBase_13 : decode cX0_hasBase 13 = .ok (.goto 4, 3) := by decide +kernel
theorem dX0_hasBase_16 : decode cX0_hasBase 16 = .ok (.iconst 0, 1) := by decide +kernel
theorem dX0_hasBase_17 : decode cX0_hasBase 17 = .ok (.ireturn, 1) := by decide +kernel
theorem dX0_find_0 : decode cX0_find 0 = .ok (.aload_n 0, 1) := by decide +kernel
theorem dX0_find_1 : decode cX0_find 1 = .ok (.getfield 39, 3) := by decide +kernel
theorem dX0_find_4 : decode cX0_find 4 = .ok (.aload_n 1, 1) := by decide +kernel
theorem dX0_find_5 : decode cX0_find 5 = .ok (.iconst 1, 1) := by decide +kernel
theorem dX0_find_6 : decode cX0_find 6 = .ok (.invokevirtual 47, 3) := by decide +kernel
theorem dX0_find_9 : decode cX0_find 9 = .ok (.aload_n 0, 1) := by decide +kernel
theorem dX0_find_10 : decode cX0_find 10 = .ok (.getfield 39, 3) := by decide +kernel
theorem dX0_find_13 : decode cX0_find 13 = .ok (.invokevirtual 53, 3) := by decide +kernel
theorem dX0_find_16 : decode cX0_find 16 = .ok (.aload_n 0, 1) := by decide +kernel
theorem dX0_find_17 : decode cX0_find 17 = .ok (.getfield 39, 3) := by decide +kernel
theorem dX0_find_20 : decode cX0_find 20 = .ok (.aload_n 0, 1) := by decide +kernel
theorem dX0_find_21 : decode cX0_find 21 = .ok (.getfield 25, 3) := by decide +kernel
theorem dX0_find_24 : decode cX0_find 24 = .ok (.invokevirtual 56, 3) := by decide +kernel
theorem dX0_find_27 : decode cX0_find 27 = .ok (.aload_n 0, 1) := by decide +kernel
theorem dX0_find_28 : decode cX0_find 28 = .ok (.aload_n 0, 1) := by decide +kernel
theorem dX0_find_29 : decode cX0_find 29 = .ok (.getfield 39, 3) := by decide +kernel
theorem dX0_find_32 : decode cX0_find 32 = .ok (.aload_n 0, 1) := by decide +kernel
theorem dX0_find_33 : decode cX0_find 33 = .ok (.getfield 29, 3) := by decide +kernel
theorem dX0_find_36 : decode cX0_find 36 = .ok (.invokevirtual 60, 3) := by decide +kernel
theorem dX0_find_39 : decode cX0_find 39 = .ok (.putfield 64, 3) := by decide +kernel
theorem dX0_find_42 : decode cX0_find 42 = .ok (.aload_n 0, 1) := by decide +kernel
theorem dX0_find_43 : decode cX0_find 43 = .ok (.aload_n 1, 1) := by decide +kernel
theorem dX0_find_44 : decode cX0_find 44 = .ok (.invokevirtual 68, 3) := by decide +kernel
theorem dX0_find_47 : decode cX0_find 47 = .ok (.aload_n 0, 1) := by decide +kernel
theorem dX0_find_48 : decode cX0_find 48 = .ok (.iconst 1, 1) := by decide +kernel
theorem dX0_find_49 : decode cX0_find 49 = .ok (.putfield 72, 3) := by decide +kernel
theorem dX0_find_52 : decode cX0_find 52 = .ok (.return_, 1) := by decide +kernel
theorem dX0_findBases_0 : decode cX0_findBases 0 = .ok (.aload_n 0, 1) := by decide +kernel
theorem dX0_findBases_1 : decode cX0_findBases 1 = .ok (.aload_n 1, 1) := by decide +kernel
theorem dX0_findBases_2 : decode cX0_findBases 2 = .ok (.invokevirtual 75, 3) := by decide +kernel
theorem dX0_findBases_5 : decode cX0_findBases 5 = .ok (.aload_n 0, 1) := by decide +kernel
theorem dX0_findBases_6 : decode cX0_findBases 6 = .ok (.getfield 12, 3) := by decide +kernel
theorem dX0_findBases_9 : decode cX0_findBases 9 = .ok (.aload_n 0, 1) := by decide +kernel
theorem dX0_findBases_10 : decode cX0_findBases 10 = .ok (.getfield 18, 3) := by decide +kernel
theorem dX0_findBases_13 : decode cX0_findBases 13 = .ok (.invokevirtual 78, 3) := by decide +kernel
theorem dX0_findBases_16 : decode cX0_findBases 16 = .ok (.aload_n 0, 1) := by decide +kernel
theorem dX0_findBases_17 : decode cX0_findBases 17 = .ok (.iconst 0, 1) := by decide +kernel
theorem dX0_findBases_18 : decode cX0_findBases 18 = .ok (.putfield 43, 3) := by decide +kernel
theorem dX0_findBases_21 : decode cX0_findBases 21 = .ok (.iconst 0, 1) := by decide +kernel
theorem dX0_findBases_22 : decode cX0_findBases 22 = .ok (.istore_n 2, 1) := by decide +kernel
theorem dX0_findBases_23 : decode cX0_findBases 23 = .ok (.iload_n 2, 1) := by decide +kernel
theorem dX0_findBases_24 : decode cX0_findBases 24 = .ok (.aload_n 0, 1) := by decide +kernel
theorem dX0_findBases_25 : decode cX0_findBases 25 = .ok (.getfield 12, 3) := by decide +kernel
theorem dX0_findBases_28 : decode cX0_findBases 28 = .ok (.getfield 82, 3) := by decide +kernel
theorem dX0_findBases_31 : decode cX0_findBases 31 = .ok (.if_icmp .ge 100, 3) := by decide +kernel
theorem dX0_findBases_34 : decode cX0_findBases 34 = .ok (.aload_n 0, 1) := by decide +kernel
theorem dX0_findBases_35 : decode cX0_findBases 35 = .ok (.getfield 43, 3) := by decide +kernel
theorem dX0_findBases_38 : decode cX0_findBases 38 = .ok (.iconst 4, 1) := by decide +kernel
theorem dX0_findBases_39 : decode cX0_findBases 39 = .ok (.if_icmp .ge 92, 3) := by decide +kernel
theorem dX0_findBases_42 : decode cX0_findBases 42 = .ok (.aload_n 0, 1) := by decide +kernel
theorem dX0_findBases_43 : decode cX0_findBases 43 = .ok (.getfield 12, 3) := by decide +kernel
theorem dX0_findBases_46 : decode cX0_findBases 46 = .ok (.iload_n 2, 1) := by decide +kernel
theorem dX0_findBases_47 : decode cX0_findBases 47 = .ok (.invokevirtual 85, 3) := by decide +kernel
theorem dX0_findBases_50 : decode cX0_findBases 50 = .ok (.istore_n 3, 1) := by decide +kernel
theorem dX0_findBases_51 : decode cX0_findBases 51 = .ok (.iload_n 3, 1) := by decide +kernel
theorem dX0_findBases_52 : decode cX0_findBases 52 = .ok (.ifCond .gt 6, 3) := by decide +kernel
theorem dX0_findBases_55 : decode cX0_findBases 55 = .ok (.goto 70, 3) := by decide +kernel
theorem dX0_findBases_58 : decode cX0_findBases 58 = .ok (.aload_n 0, 1) := by decide +kernel
theorem dX0_findBases_59 : decode cX0_findBases 59 = .ok (.getfield 39, 3) := by decide +kernel
theorem dX0_findBases_62 : decode cX0_findBases 62 = .ok (.aload_n 1, 1) := by decide +kernel
theorem dX0_findBases_63 : decode cX0_findBases 63 = .ok (.iload_n 3, 1) := by decide +kernel
theorem dX0_findBases_64 : decode cX0_findBases 64 = .ok (.invokevirtual 47, 3) := by decide +kernel
theorem dX0_findBases_67 : decode cX0_findBases 67 = .ok (.aload_n 0, 1) := by decide +kernel
theorem dX0_findBases_68 : decode cX0_findBases 68 = .ok (.getfield 39, 3) := by decide +kernel
theorem dX0_findBases_71 : decode cX0_findBases 71 = .ok (.invokevirtual 53, 3) := by decide +kernel
theorem dX0_findBases_74 : decode cX0_findBases 74 = .ok (.aload_n 0, 1) := by decide +kernel
theorem dX0_findBases_75 : decode cX0_findBases 75 = .ok (.getfield 39, 3) := by decide +kernel
theorem dX0_findBases_78 : decode cX0_findBases 78 = .ok (.aload_n 0, 1) := by decide +kernel
theorem dX0_findBases_79 : decode cX0_findBases 79 = .ok (.getfield 35, 3) := by decide +kernel
theorem dX0_findBases_82 : decode cX0_findBases 82 = .ok (.aload_n 0, 1) := by decide +kernel
theorem dX0_findBases_83 : decode cX0_findBases 83 = .ok (.getfield 43, 3) := by decide +kernel
theorem dX0_findBases_86 : decode cX0_findBases 86 = .ok (.aaload, 1) := by decide +kernel
theorem dX0_findBases_87 : decode cX0_findBases 87 = .ok (.invokevirtual 56, 3) := by decide +kernel
theorem dX0_findBases_90 : decode cX0_findBases 90 = .ok (.aload_n 0, 1) := by decide +kernel
theorem dX0_findBases_91 : decode cX0_findBases 91 = .ok (.getfield 35, 3) := by decide +kernel
theorem dX0_findBases_94 : decode cX0_findBases 94 = .ok (.aload_n 0, 1) := by decide +kernel
theorem dX0_findBases_95 : decode cX0_findBases 95 = .ok (.getfield 43, 3) := by decide +kernel
theorem dX0_findBases_98 : decode cX0_findBases 98 = .ok (.aaload, 1) := by decide +kernel
theorem dX0_findBases_99 : decode cX0_findBases 99 = .ok (.getfield 89, 3) := by decide +kernel
theorem dX0_findBases_102 : decode cX0_findBases 102 = .ok (.ifCond .le 23, 3) := by decide +kernel
theorem dX0_findBases_105 : decode cX0_findBases 105 = .ok (.aload_n 0, 1) := by decide +kernel
theorem dX0_findBases_106 : decode cX0_findBases 106 = .ok (.getfield 32, 3) := by decide +kernel
theorem dX0_findBases_109 : decode cX0_findBases 109 = .ok (.aload_n 0, 1) := by decide +kernel
theorem dX0_findBases_110 : decode cX0_findBases 110 = .ok (.getfield 43, 3) := by decide +kernel
theorem dX0_findBases_113 : decode cX0_findBases 113 = .ok (.iload_n 3, 1) := by decide +kernel
theorem dX0_findBases_114 : decode cX0_findBases 114 = .ok (.iastore, 1) := by decide +kernel
theorem dX0_findBases_115 : decode cX0_findBases 115 = .ok (.aload_n 0, 1) := by decide +kernel
theorem dX0_findBases_116 : decode cX0_findBases 116 = .ok (.dup, 1) := by decide +kernel
theorem dX0_findBases_117 : decode cX0_findBases 117 = .ok (.getfield 43, 3) := by decide +kernel
theorem dX0_findBases_120 : decode cX0_findBases 120 = .ok (.iconst 1, 1) := by decide +kernel
theorem dX0_findBases_121 : decode cX0_findBases 121 = .ok (.iadd, 1) := by decide +kernel
theorem dX0_findBases_122 : decode cX0_findBases 122 = .ok (.putfield 43, 3) := by decide +kernel
theorem dX0_findBases_125 : decode cX0_findBases 125 = .ok (.iinc 2 1, 3) := by decide +kernel
theorem dX0_findBases_128 : decode cX0_findBases 128 = .ok (.goto (-105), 3) := by decide +kernel
theorem dX0_findBases_131 : decode cX0_findBases 131 = .ok (.return_, 1) := by decide +kernel
theorem dX0_collectTopNumbers_0 : decode cX0_collectTopNumbers 0 = .ok (.aload_n 1, 1) := by decide +kernel
theorem dX0_collectTopNumbers_1 : decode cX0_collectTopNumbers 1 = .ok (.invokevirtual 92, 3) := by decide +kernel
theorem dX0_collectTopNumbers_4 : decode cX0_collectTopNumbers 4 = .ok (.istore_n 2, 1) := by decide +kernel
theorem dX0_collectTopNumbers_5 : decode cX0_collectTopNumbers 5 = .ok (.iconst 0, 1) := by decide +kernel
theorem dX0_collectTopNumbers_6 : decode cX0_collectTopNumbers 6 = .ok (.istore_n 3, 1) := by decide +kernel
theorem dX0_collectTopNumbers_7 : decode cX0_collectTopNumbers 7 = .ok (.iload_n 3, 1) := by decide +kernel
theorem dX0_collectTopNumbers_8 : decode cX0_collectTopNumbers 8 = .ok (.bipush 7, 2) := by decide +kernel
theorem dX0_collectTopNumbers_10 : decode cX0_collectTopNumbers 10 = .ok (.if_icmp .ge 48, 3) := by decide +kernel
theorem dX0_collectTopNumbers_13 : decode cX0_collectTopNumbers 13 = .ok (.iload_n 3, 1) := by decide +kernel
theorem dX0_collectTopNumbers_14 : decode cX0_collectTopNumbers 14 = .ok (.iconst 4, 1) := by decide +kernel
theorem dX0_collectTopNumbers_15 : decode cX0_collectTopNumbers 15 = .ok (.if_icmp .gt 11, 3) := by decide +kernel
theorem dX0_collectTopNumbers_18 : decode cX0_collectTopNumbers 18 = .ok (.iload_n 2, 1) := by decide +kernel
theorem dX0_collectTopNumbers_19 : decode cX0_collectTopNumbers 19 = .ok (.ifCond .lt 7, 3) := by decide +kernel
theorem dX0_collectTopNumbers_22 : decode cX0_collectTopNumbers 22 = .ok (.iconst 1, 1) := by decide +kernel
theorem dX0_collectTopNumbers_23 : decode cX0_collectTopNumbers 23 = .ok (.goto 4, 3) := by decide +kernel
theorem dX0_collectTopNumbers_26 : decode cX0_collectTopNumbers 26 = .ok (.iconst 0, 1) := by decide +kernel
theorem dX0_collectTopNumbers_27 : decode cX0_collectTopNumbers 27 = .ok (.istore 4, 2) := by decide +kernel
theorem dX0_collectTopNumbers_29 : decode cX0_collectTopNumbers 29 = .ok (.aload_n 0, 1) := by decide +kernel
theorem dX0_collectTopNumbers_30 : decode cX0_collectTopNumbers 30 = .ok (.getfield 18, 3) := by decide +kernel
theorem dX0_collectTopNumbers_33 : decode cX0_collectTopNumbers 33 = .ok (.iload_n 3, 1) := by decide +kernel
theorem dX0_collectTopNumbers_34 : decode cX0_collectTopNumbers 34 = .ok (.iload 4, 2) := by decide +kernel
theorem dX0_collectTopNumbers_36 : decode cX0_collectTopNumbers 36 = .ok (.ifCond .eq 14, 3) := by decide +kernel
theorem dX0_collectTopNumbers_39 : decode cX0_collectTopNumbers 39 = .ok (.aload_n 1, 1) := by decide +kernel
theorem dX0_collectTopNumbers_40 : decode cX0_collectTopNumbers 40 = .ok (.getfield 98, 3) := by decide +kernel
theorem dX0_collectTopNumbers_43 : decode cX0_collectTopNumbers 43 = .ok (.iload_n 3, 1) := by decide +kernel
theorem dX0_collectTopNumbers_44 : decode cX0_collectTopNumbers 44 = .ok (.aaload, 1) := by decide +kernel
theorem dX0_collectTopNumbers_45 : decode cX0_collectTopNumbers 45 = .ok (.iload_n 2, 1) := by decide +kernel
theorem dX0_collectTopNumbers_46 : decode cX0_collectTopNumbers 46 = .ok (.iaload, 1) := by decide +kernel
theorem dX0_collectTopNumbers_47 : decode cX0_collectTopNumbers 47 = .ok (.goto 4, 3) := by decide +kernel
theorem dX0_collectTopNumbers_50 : decode cX0_collectTopNumbers 50 = .ok (.iconst 0, 1) := by decide +kernel
theorem dX0_collectTopNumbers_51 : decode cX0_collectTopNumbers 51 = .ok (.iastore, 1) := by decide +kernel
theorem dX0_collectTopNumbers_52 : decode cX0_collectTopNumbers 52 = .ok (.iinc 3 1, 3) := by decide +kernel
theorem dX0_collectTopNumbers_55 : decode cX0_collectTopNumbers 55 = .ok (.goto (-48), 3) := by decide +kernel
theorem dX0_collectTopNumbers_58 : decode cX0_collectTopNumbers 58 = .ok (.return_, 1) := by decide +kernel
theorem dX1_init_0 : decode cX1_init 0 = .ok (.aload_n 0, 1) := by decide +kernel
theorem dX1_init_1 : decode cX1_init 1 = .ok (.invokespecial 3, 3) := by decide +kernel
theorem dX1_init_4 : decode cX1_init 4 = .ok (.aload_n 0, 1) := by decide +kernel
theorem dX1_init_5 : decode cX1_init 5 = .ok (.iconst 5, 1) := by decide +kernel
theorem dX1_init_6 : decode cX1_init 6 = .ok (.bipush 7, 2) := by decide +kernel
theorem dX1_init_8 : decode cX1_init 8 = .ok (.multianewarray 9 2, 4) := by decide +kernel
theorem dX1_init_12 : decode cX1_init 12 = .ok (.putfield 11, 3) := by decide +kernel
theorem dX1_init_15 : decode cX1_init 15 = .ok (.aload_n 0, 1) := by decide +kernel
theorem dX1_init_16 : decode cX1_init 16 = .ok (.bipush 11, 2) := by decide +kernel
theorem dX1_init_18 : decode cX1_init 18 = .ok (.newarray .int, 2) := by decide +kernel
theorem dX1_init_20 : decode cX1_init 20 = .ok (.putfield 16, 3) := by decide +kernel
theorem dX1_init_23 : decode cX1_init 23 = .ok (.aload_n 0, 1) := by decide +kernel
theorem dX1_init_24 : decode cX1_init 24 = .ok (.iload_n 1, 1) := by decide +kernel
theorem dX1_init_25 : decode cX1_init 25 = .ok (.putfield 20, 3) := by decide +kernel
theorem dX1_init_28 : decode cX1_init 28 = .ok (.return_, 1) := by decide +kernel
theorem dX1_leastShift_0 : decode cX1_leastShift 0 = .ok (.iconst 0, 1) := by decide +kernel
theorem dX1_leastShift_1 : decode cX1_leastShift 1 = .ok (.istore_n 1, 1) := by decide +kernel
theorem dX1_leastShift_2 : decode cX1_leastShift 2 = .ok (.iload_n 1, 1) := by decide +kernel
theorem dX1_leastShift_3 : decode cX1_leastShift 3 = .ok (.iconst 4, 1) := by decide +kernel
theorem dX1_leastShift_4 : decode cX1_leastShift 4 = .ok (.if_icmp .gt 23, 3) := by decide +kernel
theorem dX1_leastShift_7 : decode cX1_leastShift 7 = .ok (.aload_n 0, 1) := by decide +kernel
theorem dX1_leastShift_8 : decode cX1_leastShift 8 = .ok (.getfield 11, 3) := by decide +kernel
theorem dX1_leastShift_11 : decode cX1_leastShift 11 = .ok (.iload_n 1, 1) := by decide +kernel
theorem dX1_leastShift_12 : decode cX1_leastShift 12 = .ok (.aaload, 1) := by decide +kernel
theorem dX1_leastShift_13 : decode cX1_leastShift 13 = .ok (.invokestatic 24, 3) := by decide +kernel
theorem dX1_leastShift_16 : decode cX1_leastShift 16 = .ok (.ifCond .lt 5, 3) := by decide +kernel
theorem dX1_leastShift_19 : decode cX1_leastShift 19 = .ok (.iload_n 1, 1) := by decide +kernel
theorem dX1_leastShift_20 : decode cX1_leastShift 20 = .ok (.ireturn, 1) := by decide +kernel
theorem dX1_leastShift_21 : decode cX1_leastShift 21 = .ok (.iinc 1 1, 3) := by decide +kernel
theorem dX1_leastShift_24 : decode cX1_leastShift 24 = .ok (.goto (-22), 3) := by decide +kernel
theorem dX1_leastShift_27 : decode cX1_leastShift 27 = .ok (.iconst (-1), 1) := by decide +kernel
theorem dX1_leastShift_28 : decode cX1_leastShift 28 = .ok (.ireturn, 1) := by decide +kernel
theorem dX1_greatestShift_0 : decode cX1_greatestShift 0 = .ok (.iconst 4, 1) := by decide +kernel
theorem dX1_greatestShift_1 : decode cX1_greatestShift 1 = .ok (.istore_n 1, 1) := by decide +kernel
theorem dX1_greatestShift_2 : decode cX1_greatestShift 2 = .ok (.iload_n 1, 1) := by decide +kernel
theorem dX1_greatestShift_3 : decode cX1_greatestShift 3 = .ok (.ifCond .lt 23, 3) := by decide +kernel
theorem dX1_greatestShift_6 : decode cX1_greatestShift 6 = .ok (.aload_n 0, 1) := by decide +kernel
theorem dX1_greatestShift_7 : decode cX1_greatestShift 7 = .ok (.getfield 11, 3) := by decide +kernel
theorem dX1_greatestShift_10 : decode cX1_greatestShift 10 = .ok (.iload_n 1, 1) := by decide +kernel
theorem dX1_greatestShift_11 : decode cX1_greatestShift 11 = .ok (.aaload, 1) := by decide +kernel
theorem dX1_greatestShift_12 : decode cX1_greatestShift 12 = .ok (.invokestatic 24, 3) := by decide +kernel
theorem dX1_greatestShift_15 : decode cX1_greatestShift 15 = .ok (.ifCond .lt 5, 3) := by decide +kernel
theorem dX1_greatestShift_18 : decode cX1_greatestShift 18 = .ok (.iload_n 1, 1) := by decide +kernel
theorem dX1_greatestShift_19 : decode cX1_greatestShift 19 = .ok (.ireturn, 1) := by decide +kernel
theorem dX1_greatestShift_20 : decode cX1_greatestShift 20 = .ok (.iinc 1 (-1), 3) := by decide +kernel
theorem dX1_greatestShift_23 : decode cX1_greatestShift 23 = .ok (.goto (-21), 3) := by decide +kernel
theorem dX1_greatestShift_26 : decode cX1_greatestShift 26 = .ok (.iconst (-1), 1) := by decide +kernel
theorem dX1_greatestShift_27 : decode cX1_greatestShift 27 = .ok (.ireturn, 1) := by decide +kernel
theorem dX1_greatestDegree_0 : decode cX1_greatestDegree 0 = .ok (.iconst (-1), 1) := by decide +kernel
theorem dX1_greatestDegree_1 : decode cX1_greatestDegree 1 = .ok (.istore_n 1, 1) := by decide +kernel
theorem dX1_greatestDegree_2 : decode cX1_greatestDegree 2 = .ok (.iconst 0, 1) := by decide +kernel
theorem dX1_greatestDegree_3 : decode cX1_greatestDegree 3 = .ok (.istore_n 2, 1) := by decide +kernel
theorem dX1_greatestDegree_4 : decode cX1_greatestDegree 4 = .ok (.iload_n 2, 1) := by decide +kernel
theorem dX1_greatestDegree_5 : decode cX1_greatestDegree 5 = .ok (.iconst 4, 1) := by decide +kernel
theorem dX1_greatestDegree_6 : decode cX1_greatestDegree 6 = .ok (.if_icmp .gt 23, 3) := by decide +kernel
theorem dX1_greatestDegree_9 : decode cX1_greatestDegree 9 = .ok (.iload_n 1, 1) := by decide +kernel
theorem dX1_greatestDegree_10 : decode cX1_greatestDegree 10 = .ok (.aload_n 0, 1) := by decide +kernel
theorem dX1_greatestDegree_11 : decode cX1_greatestDegree 11 = .ok (.getfield 11, 3) := by decide +kernel
theorem dX1_greatestDegree_14 : decode cX1_greatestDegree 14 = .ok (.iload_n 2, 1) := by decide +kernel
theorem dX1_greatestDegree_15 : decode cX1_greatestDegree 15 = .ok (.aaload, 1) := by decide +kernel
theorem dX1_greatestDegree_16 : decode cX1_greatestDegree 16 = .ok (.invokestatic 24, 3) := by decide +kernel
theorem dX1_greatestDegree_19 : decode cX1_greatestDegree 19 = .ok (.invokestatic 30, 3) := by decide +kernel
theorem dX1_greatestDegree_22 : decode cX1_greatestDegree 22 = .ok (.istore_n 1, 1) := by decide +kernel
theorem dX1_greatestDegree_23 : decode cX1_greatestDegree 23 = .ok (.iinc 2 1, 3) := by decide +kernel
theorem dX1_greatestDegree_26 : decode cX1_greatestDegree 26 = .ok (.goto (-22), 3) := by decide +kernel
theorem dX1_greatestDegree_29 : decode cX1_greatestDegree 29 = .ok (.iload_n 1, 1) := by decide +kernel
theorem dX1_greatestDegree_30 : decode cX1_greatestDegree 30 = .ok (.ireturn, 1) := by decide +kernel
theorem dX1_empty_0 : decode cX1_empty 0 = .ok (.iconst 0, 1) := by decide +kernel
theorem dX1_empty_1 : decode cX1_empty 1 = .ok (.istore_n 1, 1) := by decide +kernel
theorem dX1_empty_2 : decode cX1_empty 2 = .ok (.iload_n 1, 1) := by decide +kernel
theorem dX1_empty_3 : decode cX1_empty 3 = .ok (.iconst 4, 1) := by decide +kernel
theorem dX1_empty_4 : decode cX1_empty 4 = .ok (.if_icmp .gt 32, 3) := by decide +kernel
theorem dX1_empty_7 : decode cX1_empty 7 = .ok (.iconst 0, 1) := by decide +kernel
theorem dX1_empty_8 : decode cX1_empty 8 = .ok (.istore_n 2, 1) := by decide +kernel
theorem dX1_empty_9 : decode cX1_empty 9 = .ok (.iload_n 2, 1) := by decide +kernel
theorem dX1_empty_10 : decode cX1_empty 10 = .ok (.bipush 7, 2) := by decide +kernel
theorem dX1_empty_12 : decode cX1_empty 12 = .ok (.if_icmp .ge 18, 3) := by decide +kernel
theorem dX1_empty_15 : decode cX1_empty 15 = .ok (.aload_n 0, 1) := by decide +kernel
theorem dX1_empty_16 : decode cX1_empty 16 = .ok (.getfield 11, 3) := by decide +kernel
theorem dX1_empty_19 : decode cX1_empty 19 = .ok (.iload_n 1, 1) := by decide +kernel
theorem dX1_empty_20 : decode cX1_empty 20 = .ok (.aaload, 1) := by decide +kernel
theorem dX1_empty_21 : decode cX1_empty 21 = .ok (.iload_n 2, 1) := by decide +kernel
theorem dX1_empty_22 : decode cX1_empty 22 = .ok (.iconst 0, 1) := by decide +kernel
theorem dX1_empty_23 : decode cX1_empty 23 = .ok (.iastore, 1) := by decide +kernel
theorem dX1_empty_24 : decode cX1_empty 24 = .ok (.iinc 2 1, 3) := by decide +kernel
theorem dX1_empty_27 : decode cX1_empty 27 = .ok (.goto (-18), 3) := by decide +kernel
theorem dX1_empty_30 : decode cX1_empty 30 = .ok (.iinc 1 1, 3) := by decide +kernel
theorem dX1_empty_33 : decode cX1_empty 33 = .ok (.goto (-31), 3) := by decide +kernel
theorem dX1_empty_36 : decode cX1_empty 36 = .ok (.iconst 0, 1) := by decide +kernel
theorem dX1_empty_37 : decode cX1_empty 37 = .ok (.istore_n 1, 1) := by decide +kernel
theorem dX1_empty_38 : decode cX1_empty 38 = .ok (.iload_n 1, 1) := by decide +kernel
theorem dX1_empty_39 : decode cX1_empty 39 = .ok (.bipush 11, 2) := by decide +kernel
theorem dX1_empty_41 : decode cX1_empty 41 = .ok (.if_icmp .ge 16, 3) := by decide +kernel
theorem dX1_empty_44 : decode cX1_empty 44 = .ok (.aload_n 0, 1) := by decide +kernel
theorem dX1_empty_45 : decode cX1_empty 45 = .ok (.getfield 16, 3) := by decide +kernel
theorem dX1_empty_48 : decode cX1_empty 48 = .ok (.iload_n 1, 1) := by decide +kernel
theorem dX1_empty_49 : decode cX1_empty 49 = .ok (.iconst 0, 1) := by decide +kernel
theorem dX1_empty_50 : decode cX1_empty 50 = .ok (.iastore, 1) := by decide +kernel
theorem dX1_empty_51 : decode cX1_empty 51 = .ok (.iinc 1 1, 3) := by decide +kernel
theorem dX1_empty_54 : decode cX1_empty 54 = .ok (.goto (-16), 3) := by decide +kernel
theorem dX1_empty_57 : decode cX1_empty 57 = .ok (.return_, 1) := by decide +kernel
theorem dX2_init_0 : decode cX2_init 0 = .ok (.aload_n 0, 1) := by decide +kernel
theorem dX2_init_1 : decode cX2_init 1 = .ok (.invokespecial 3, 3) := by decide +kernel
theorem dX2_init_4 : decode cX2_init 4 = .ok (.aload_n 0, 1) := by decide +kernel
theorem dX2_init_5 : decode cX2_init 5 = .ok (.bipush 19, 2) := by decide +kernel
theorem dX2_init_7 : decode cX2_init 7 = .ok (.bipush 14, 2) := by decide +kernel
theorem dX2_init_9 : decode cX2_init 9 = .ok (.multianewarray 9 2, 4) := by decide +kernel
theorem dX2_init_13 : decode cX2_init 13 = .ok (.putfield 11, 3) := by decide +kernel
theorem dX2_init_16 : decode cX2_init 16 = .ok (.aload_n 0, 1) := by decide +kernel
theorem dX2_init_17 : decode cX2_init 17 = .ok (.bipush 19, 2) := by decide +kernel
theorem dX2_init_19 : decode cX2_init 19 = .ok (.newarray .boolean, 2) := by decide +kernel
theorem dX2_init_21 : decode cX2_init 21 = .ok (.putfield 16, 3) := by decide +kernel
theorem dX2_init_24 : decode cX2_init 24 = .ok (.aload_n 0, 1) := by decide +kernel
theorem dX2_init_25 : decode cX2_init 25 = .ok (.bipush 13, 2) := by decide +kernel
theorem dX2_init_27 : decode cX2_init 27 = .ok (.newarray .int, 2) := by decide +kernel
theorem dX2_init_29 : decode cX2_init 29 = .ok (.putfield 20, 3) := by decide +kernel
theorem dX2_init_32 : decode cX2_init 32 = .ok (.aload_n 0, 1) := by decide +kernel
theorem dX2_init_33 : decode cX2_init 33 = .ok (.bipush 19, 2) := by decide +kernel
theorem dX2_init_35 : decode cX2_init 35 = .ok (.newarray .int, 2) := by decide +kernel
theorem dX2_init_37 : decode cX2_init 37 = .ok (.putfield 24, 3) := by decide +kernel
theorem dX2_init_40 : decode cX2_init 40 = .ok (.return_, 1) := by decide +kernel
theorem dX2_fill_0 : decode cX2_fill 0 = .ok (.iconst 0, 1) := by decide +kernel
theorem dX2_fill_1 : decode cX2_fill 1 = .ok (.istore_n 3, 1) := by decide +kernel
theorem dX2_fill_2 : decode cX2_fill 2 = .ok (.iload_n 3, 1) := by decide +kernel
theorem dX2_fill_3 : decode cX2_fill 3 = .ok (.bipush 19, 2) := by decide +kernel
theorem dX2_fill_5 : decode cX2_fill 5 = .ok (.if_icmp .ge 60, 3) := by decide +kernel
theorem dX2_fill_8 : decode cX2_fill 8 = .ok (.iconst 0, 1) := by decide +kernel
theorem dX2_fill_9 : decode cX2_fill 9 = .ok (.istore 4, 2) := by decide +kernel
theorem dX2_fill_11 : decode cX2_fill 11 = .ok (.iload 4, 2) := by decide +kernel
theorem dX2_fill_13 : decode cX2_fill 13 = .ok (.bipush 13, 2) := by decide +kernel
theorem dX2_fill_15 : decode cX2_fill 15 = .ok (.if_icmp .ge 19, 3) := by decide +kernel
theorem dX2_fill_18 : decode cX2_fill 18 = .ok (.aload_n 0, 1) := by decide +kernel
theorem dX2_fill_19 : decode cX2_fill 19 = .ok (.getfield 11, 3) := by decide +kernel
theorem dX2_fill_22 : decode cX2_fill 22 = .ok (.iload_n 3, 1) := by decide +kernel
theorem dX2_fill_23 : decode cX2_fill 23 = .ok (.aaload, 1) := by decide +kernel
theorem dX2_fill_24 : decode cX2_fill 24 = .ok (.iload 4, 2) := by decide +kernel
theorem dX2_fill_26 : decode cX2_fill 26 = .ok (.iconst 0, 1) := by decide +kernel
theorem dX2_fill_27 : decode cX2_fill 27 = .ok (.iastore, 1) := by decide +kernel
theorem dX2_fill_28 : decode cX2_fill 28 = .ok (.iinc 4 1, 3) := by decide +kernel
theorem dX2_fill_31 : decode cX2_fill 31 = .ok (.goto (-20), 3) := by decide +kernel
theorem dX2_fill_34 : decode cX2_fill 34 = .ok (.aload_n 0, 1) := by decide +kernel
theorem dX2_fill_35 : decode cX2_fill 35 = .ok (.getfield 11, 3) := by decide +kernel
theorem dX2_fill_38 : decode cX2_fill 38 = .ok (.iload_n 3, 1) := by decide +kernel
theorem dX2_fill_39 : decode cX2_fill 39 = .ok (.aaload, 1) := by decide +kernel
theorem dX2_fill_40 : decode cX2_fill 40 = .ok (.bipush 13, 2) := by decide +kernel
theorem dX2_fill_42 : decode cX2_fill 42 = .ok (.iload_n 3, 1) := by decide +kernel
theorem dX2_fill_43 : decode cX2_fill 43 = .ok (.bipush 11, 2) := by decide +kernel
theorem dX2_fill_45 : decode cX2_fill 45 = .ok (.if_icmp .ge 12, 3) := by decide +kernel
theorem dX2_fill_48 : decode cX2_fill 48 = .ok (.aload_n 1, 1) := by decide +kernel
theorem dX2_fill_49 : decode cX2_fill 49 = .ok (.getfield 27, 3) := by decide +kernel
theorem dX2_fill_52 : decode cX2_fill 52 = .ok (.iload_n 3, 1) := by decide +kernel
theorem dX2_fill_53 : decode cX2_fill 53 = .ok (.iaload, 1) := by decide +kernel
theorem dX2_fill_54 : decode cX2_fill 54 = .ok (.goto 4, 3) := by decide +kernel
theorem dX2_fill_57 : decode cX2_fill 57 = .ok (.iconst 0, 1) := by decide +kernel
theorem dX2_fill_58 : decode cX2_fill 58 = .ok (.iastore, 1) := by decide +kernel
theorem dX2_fill_59 : decode cX2_fill 59 = .ok (.iinc 3 1, 3) := by decide +kernel
theorem dX2_fill_62 : decode cX2_fill 62 = .ok (.goto (-60), 3) := by decide +kernel
theorem dX2_fill_65 : decode cX2_fill 65 = .ok (.iconst 1, 1) := by decide +kernel
theorem dX2_fill_66 : decode cX2_fill 66 = .ok (.istore_n 3, 1) := by decide +kernel
theorem dX2_fill_67 : decode cX2_fill 67 = .ok (.iconst 0, 1) := by decide +kernel
theorem dX2_fill_68 : decode cX2_fill 68 = .ok (.istore 4, 2) := by decide +kernel
theorem dX2_fill_70 : decode cX2_fill 70 = .ok (.iload 4, 2) := by decide +kernel
theorem dX2_fill_72 : decode cX2_fill 72 = .ok (.iconst 4, 1) := by decide +kernel
theorem dX2_fill_73 : decode cX2_fill 73 = .ok (.if_icmp .gt 31, 3) := by decide +kernel
theorem dX2_fill_76 : decode cX2_fill 76 = .ok (.aload_n 0, 1) := by decide +kernel
theorem dX2_fill_77 : decode cX2_fill 77 = .ok (.aload_n 1, 1) := by decide +kernel
theorem dX2_fill_78 : decode cX2_fill 78 = .ok (.getfield 32, 3) := by decide +kernel
theorem dX2_fill_81 : decode cX2_fill 81 = .ok (.iload 4, 2) := by decide +kernel
theorem dX2_fill_83 : decode cX2_fill 83 = .ok (.aaload, 1) := by decide +kernel
theorem dX2_fill_84 : decode cX2_fill 84 = .ok (.iload 4, 2) := by decide +kernel
theorem dX2_fill_86 : decode cX2_fill 86 = .ok (.iload_n 3, 1) := by decide +kernel
theorem dX2_fill_87 : decode cX2_fill 87 = .ok (.invokevirtual 35, 3) := by decide +kernel
theorem dX2_fill_90 : decode cX2_fill 90 = .ok (.iload_n 3, 1) := by decide +kernel
theorem dX2_fill_91 : decode cX2_fill 91 = .ok (.iload_n 2, 1) := by decide +kernel
theorem dX2_fill_92 : decode cX2_fill 92 = .ok (.imul, 1) := by decide +kernel
theorem dX2_fill_93 : decode cX2_fill 93 = .ok (.sipush 32003, 3) := by decide +kernel
theorem dX2_fill_96 : decode cX2_fill 96 = .ok (.irem, 1) := by decide +kernel
theorem dX2_fill_97 : decode cX2_fill 97 = .ok (.istore_n 3, 1) := by decide +kernel
theorem dX2_fill_98 : decode cX2_fill 98 = .ok (.iinc 4 1, 3) := by decide +kernel
theorem dX2_fill_101 : decode cX2_fill 101 = .ok (.goto (-31), 3) := by decide +kernel
theorem dX2_fill_104 : decode cX2_fill 104 = .ok (.return_, 1) := by decide +kernel
theorem dX2_addFactor_0 : decode cX2_addFactor 0 = .ok (.aload_n 1, 1) := by decide +kernel
theorem dX2_addFactor_1 : decode cX2_addFactor 1 = .ok (.invokestatic 39, 3) := by decide +kernel
theorem dX2_addFactor_4 : decode cX2_addFactor 4 = .ok (.ifCond .ge 4, 3) := by decide +kernel
theorem dX2_addFactor_7 : decode cX2_addFactor 7 = .ok (.return_, 1) := by decide +kernel
theorem dX2_addFactor_8 : decode cX2_addFactor 8 = .ok (.iconst 0, 1) := by decide +kernel
theorem dX2_addFactor_9 : decode cX2_addFactor 9 = .ok (.istore 4, 2) := by decide +kernel
theorem dX2_addFactor_11 : decode cX2_addFactor 11 = .ok (.iload 4, 2) := by decide +kernel
theorem dX2_addFactor_13 : decode cX2_addFactor 13 = .ok (.bipush 19, 2) := by decide +kernel
theorem dX2_addFactor_15 : decode cX2_addFactor 15 = .ok (.if_icmp .ge 37, 3) := by decide +kernel
theorem dX2_addFactor_18 : decode cX2_addFactor 18 = .ok (.aload_n 0, 1) := by decide +kernel
theorem dX2_addFactor_19 : decode cX2_addFactor 19 = .ok (.getfield 24, 3) := by decide +kernel
theorem dX2_addFactor_22 : decode cX2_addFactor 22 = .ok (.iload 4, 2) := by decide +kernel
theorem dX2_addFactor_24 : decode cX2_addFactor 24 = .ok (.iload 4, 2) := by decide +kernel
theorem dX2_addFactor_26 : decode cX2_addFactor 26 = .ok (.aload_n 1, 1) := by decide +kernel
theorem dX2_addFactor_27 : decode cX2_addFactor 27 = .ok (.arraylength, 1) := by decide +kernel
theorem dX2_addFactor_28 : decode cX2_addFactor 28 = .ok (.if_icmp .ge 16, 3) := by decide +kernel
theorem dX2_addFactor_31 : decode cX2_addFactor 31 = .ok (.aload_n 1, 1) := by decide +kernel
theorem dX2_addFactor_32 : decode cX2_addFactor 32 = .ok (.iload 4, 2) := by decide +kernel
theorem dX2_addFactor_34 : decode cX2_addFactor 34 = .ok (.iaload, 1) := by decide +kernel
theorem dX2_addFactor_35 : decode cX2_addFactor 35 = .ok (.iload_n 3, 1) := by decide +kernel
theorem dX2_addFactor_36 : decode cX2_addFactor 36 = .ok (.imul, 1) := by decide +kernel
theorem dX2_addFactor_37 : decode cX2_addFactor 37 = .ok (.sipush 32003, 3) := by decide +kernel
theorem dX2_addFactor_40 : decode cX2_addFactor 40 = .ok (.irem, 1) := by decide +kernel
theorem dX2_addFactor_41 : decode cX2_addFactor 41 = .ok (.goto 4, 3) := by decide +kernel
theorem dX2_addFactor_44 : decode cX2_addFactor 44 = .ok (.iconst 0, 1) := by decide +kernel
theorem dX2_addFactor_45 : decode cX2_addFactor 45 = .ok (.iastore, 1) := by decide +kernel
theorem dX2_addFactor_46 : decode cX2_addFactor 46 = .ok (.iinc 4 1, 3) := by decide +kernel
theorem dX2_addFactor_49 : decode cX2_addFactor 49 = .ok (.goto (-38), 3) := by decide +kernel
theorem dX2_addFactor_52 : decode cX2_addFactor 52 = .ok (.iconst 0, 1) := by decide +kernel
theorem dX2_addFactor_53 : decode cX2_addFactor 53 = .ok (.istore 4, 2) := by decide +kernel
theorem dX2_addFactor_55 : decode cX2_addFactor 55 = .ok (.iload 4, 2) := by decide +kernel
theorem dX2_addFactor_57 : decode cX2_addFactor 57 = .ok (.bipush 13, 2) := by decide +kernel
theorem dX2_addFactor_59 : decode cX2_addFactor 59 = .ok (.if_icmp .ge 65, 3) := by decide +kernel
theorem dX2_addFactor_62 : decode cX2_addFactor 62 = .ok (.iconst 0, 1) := by decide +kernel
theorem dX2_addFactor_63 : decode cX2_addFactor 63 = .ok (.istore 5, 2) := by decide +kernel
theorem dX2_addFactor_65 : decode cX2_addFactor 65 = .ok (.iload 5, 2) := by decide +kernel
theorem dX2_addFactor_67 : decode cX2_addFactor 67 = .ok (.bipush 19, 2) := by decide +kernel
theorem dX2_addFactor_69 : decode cX2_addFactor 69 = .ok (.if_icmp .ge 41, 3) := by decide +kernel
theorem dX2_addFactor_72 : decode cX2_addFactor 72 = .ok (.aload_n 0, 1) := by decide +kernel
theorem dX2_addFactor_73 : decode cX2_addFactor 73 = .ok (.getfield 11, 3) := by decide +kernel
theorem dX2_addFactor_76 : decode cX2_addFactor 76 = .ok (.iload 5, 2) := by decide +kernel
theorem dX2_addFactor_78 : decode cX2_addFactor 78 = .ok (.aaload, 1) := by decide +kernel
theorem dX2_addFactor_79 : decode cX2_addFactor 79 = .ok (.iload 4, 2) := by decide +kernel
theorem dX2_addFactor_81 : decode cX2_addFactor 81 = .ok (.aload_n 0, 1) := by decide +kernel
theorem dX2_addFactor_82 : decode cX2_addFactor 82 = .ok (.getfield 11, 3) := by decide +kernel
theorem dX2_addFactor_85 : decode cX2_addFactor 85 = .ok (.iload 5, 2) := by decide +kernel
theorem dX2_addFactor_87 : decode cX2_addFactor 87 = .ok (.aaload, 1) := by decide +kernel
theorem dX2_addFactor_88 : decode cX2_addFactor 88 = .ok (.iload 4, 2) := by decide +kernel
theorem dX2_addFactor_90 : decode cX2_addFactor 90 = .ok (.iaload, 1) := by decide +kernel
theorem dX2_addFactor_91 : decode cX2_addFactor 91 = .ok (.aload_n 0, 1) := by decide +kernel
theorem dX2_addFactor_92 : decode cX2_addFactor 92 = .ok (.getfield 24, 3) := by decide +kernel
theorem dX2_addFactor_95 : decode cX2_addFactor 95 = .ok (.iload 5, 2) := by decide +kernel
theorem dX2_addFactor_97 : decode cX2_addFactor 97 = .ok (.iaload, 1) := by decide +kernel
theorem dX2_addFactor_98 : decode cX2_addFactor 98 = .ok (.iadd, 1) := by decide +kernel
theorem dX2_addFactor_99 : decode cX2_addFactor 99 = .ok (.sipush 32003, 3) := by decide +kernel
theorem dX2_addFactor_102 : decode cX2_addFactor 102 = .ok (.irem, 1) := by decide +kernel
theorem dX2_addFactor_103 : decode cX2_addFactor 103 = .ok (.iastore, 1) := by decide +kernel
theorem dX2_addFactor_104 : decode cX2_addFactor 104 = .ok (.iinc 5 1, 3) := by decide +kernel
theorem dX2_addFactor_107 : decode cX2_addFactor 107 = .ok (.goto (-42), 3) := by decide +kernel
theorem dX2_addFactor_110 : decode cX2_addFactor 110 = .ok (.aload_n 0, 1) := by decide +kernel
theorem dX2_addFactor_111 : decode cX2_addFactor 111 = .ok (.getfield 24, 3) := by decide +kernel
theorem dX2_addFactor_114 : decode cX2_addFactor 114 = .ok (.iload_n 2, 1) := by decide +kernel
theorem dX2_addFactor_115 : decode cX2_addFactor 115 = .ok (.invokestatic 45, 3) := by decide +kernel
theorem dX2_addFactor_118 : decode cX2_addFactor 118 = .ok (.iinc 4 1, 3) := by decide +kernel
theorem dX2_addFactor_121 : decode cX2_addFactor 121 = .ok (.goto (-66), 3) := by decide +kernel
theorem dX2_addFactor_124 : decode cX2_addFactor 124 = .ok (.return_, 1) := by decide +kernel
theorem dX2_leftOver_0 : decode cX2_leftOver 0 = .ok (.iload_n 2, 1) := by decide +kernel
theorem dX2_leftOver_1 : decode cX2_leftOver 1 = .ok (.ifCond .lt 9, 3) := by decide +kernel
theorem dX2_leftOver_4 : decode cX2_leftOver 4 = .ok (.iload_n 2, 1) := by decide +kernel
theorem dX2_leftOver_5 : decode cX2_leftOver 5 = .ok (.bipush 19, 2) := by decide +kernel
theorem dX2_leftOver_7 : decode cX2_leftOver 7 = .ok (.if_icmp .lt 5, 3) := by decide +kernel
theorem dX2_leftOver_10 : decode cX2_leftOver 10 = .ok (.iconst 0, 1) := by decide +kernel
theorem dX2_leftOver_11 : decode cX2_leftOver 11 = .ok (.ireturn, 1) := by decide +kernel
theorem dX2_leftOver_12 : decode cX2_leftOver 12 = .ok (.aload_n 0, 1) := by decide +kernel
theorem dX2_leftOver_13 : decode cX2_leftOver 13 = .ok (.getfield 11, 3) := by decide +kernel
theorem dX2_leftOver_16 : decode cX2_leftOver 16 = .ok (.iload_n 2, 1) := by decide +kernel
theorem dX2_leftOver_17 : decode cX2_leftOver 17 = .ok (.aaload, 1) := by decide +kernel
theorem dX2_leftOver_18 : decode cX2_leftOver 18 = .ok (.bipush 13, 2) := by decide +kernel
theorem dX2_leftOver_20 : decode cX2_leftOver 20 = .ok (.iaload, 1) := by decide +kernel
theorem dX2_leftOver_21 : decode cX2_leftOver 21 = .ok (.invokestatic 49, 3) := by decide +kernel
theorem dX2_leftOver_24 : decode cX2_leftOver 24 = .ok (.istore_n 3, 1) := by decide +kernel
theorem dX2_leftOver_25 : decode cX2_leftOver 25 = .ok (.iconst 0, 1) := by decide +kernel
theorem dX2_leftOver_26 : decode cX2_leftOver 26 = .ok (.istore 4, 2) := by decide +kernel
theorem dX2_leftOver_28 : decode cX2_leftOver 28 = .ok (.iload 4, 2) := by decide +kernel
theorem dX2_leftOver_30 : decode cX2_leftOver 30 = .ok (.bipush 13, 2) := by decide +kernel
theorem dX2_leftOver_32 : decode cX2_leftOver 32 = .ok (.if_icmp .ge 37, 3) := by decide +kernel
theorem dX2_leftOver_35 : decode cX2_leftOver 35 = .ok (.iload 4, 2) := by decide +kernel
theorem dX2_leftOver_37 : decode cX2_leftOver 37 = .ok (.aload_n 1, 1) := by decide +kernel
theorem dX2_leftOver_38 : decode cX2_leftOver 38 = .ok (.arraylength, 1) := by decide +kernel
theorem dX2_leftOver_39 : decode cX2_leftOver 39 = .ok (.if_icmp .ge 30, 3) := by decide +kernel
theorem dX2_leftOver_42 : decode cX2_leftOver 42 = .ok (.iload_n 3, 1) := by decide +kernel
theorem dX2_leftOver_43 : decode cX2_leftOver 43 = .ok (.aload_n 0, 1) := by decide +kernel
theorem dX2_leftOver_44 : decode cX2_leftOver 44 = .ok (.getfield 11, 3) := by decide +kernel
theorem dX2_leftOver_47 : decode cX2_leftOver 47 = .ok (.iload_n 2, 1) := by decide +kernel
theorem dX2_leftOver_48 : decode cX2_leftOver 48 = .ok (.aaload, 1) := by decide +kernel
theorem dX2_leftOver_49 : decode cX2_leftOver 49 = .ok (.iload 4, 2) := by decide +kernel
theorem dX2_leftOver_51 : decode cX2_leftOver 51 = .ok (.iaload, 1) := by decide +kernel
theorem dX2_leftOver_52 : decode cX2_leftOver 52 = .ok (.aload_n 1, 1) := by decide +kernel
theorem dX2_leftOver_53 : decode cX2_leftOver 53 = .ok (.iload 4, 2) := by decide +kernel
theorem dX2_leftOver_55 : decode cX2_leftOver 55 = .ok (.iaload, 1) := by decide +kernel
theorem dX2_leftOver_56 : decode cX2_leftOver 56 = .ok (.imul, 1) := by decide +kernel
theorem dX2_leftOver_57 : decode cX2_leftOver 57 = .ok (.iadd, 1) := by decide +kernel
theorem dX2_leftOver_58 : decode cX2_leftOver 58 = .ok (.sipush 32003, 3) := by decide +kernel
theorem dX2_leftOver_61 : decode cX2_leftOver 61 = .ok (.irem, 1) := by decide +kernel
theorem dX2_leftOver_62 : decode cX2_leftOver 62 = .ok (.istore_n 3, 1) := by decide +kernel
theorem dX2_leftOver_63 : decode cX2_leftOver 63 = .ok (.iinc 4 1, 3) := by decide +kernel
theorem dX2_leftOver_66 : decode cX2_leftOver 66 = .ok (.goto (-38), 3) := by decide +kernel
theorem dX2_leftOver_69 : decode cX2_leftOver 69 = .ok (.iload_n 3, 1) := by decide +kernel
theorem dX2_leftOver_70 : decode cX2_leftOver 70 = .ok (.ireturn, 1) := by decide +kernel
theorem dX2_eliminate_0 : decode cX2_eliminate 0 = .ok (.iconst 0, 1) := by decide +kernel
theorem dX2_eliminate_1 : decode cX2_eliminate 1 = .ok (.istore_n 1, 1) := by decide +kernel
theorem dX2_eliminate_2 : decode cX2_eliminate 2 = .ok (.iload_n 1, 1) := by decide +kernel
theorem dX2_eliminate_3 : decode cX2_eliminate 3 = .ok (.bipush 19, 2) := by decide +kernel
theorem dX2_eliminate_5 : decode cX2_eliminate 5 = .ok (.if_icmp .ge 16, 3) := by decide +kernel
theorem dX2_eliminate_8 : decode cX2_eliminate 8 = .ok (.aload_n 0, 1) := by decide +kernel
theorem dX2_eliminate_9 : decode cX2_eliminate 9 = .ok (.getfield 16, 3) := by decide +kernel
theorem dX2_eliminate_12 : decode cX2_eliminate 12 = .ok (.iload_n 1, 1) := by decide +kernel
theorem dX2_eliminate_13 : decode cX2_eliminate 13 = .ok (.iconst 0, 1) := by decide +kernel
theorem dX2_eliminate_14 : decode cX2_eliminate 14 = .ok (.bastore, 1) := by decide +kernel
theorem dX2_eliminate_15 : decode cX2_eliminate 15 = .ok (.iinc 1 1, 3) := by decide +kernel
theorem dX2_eliminate_18 : decode cX2_eliminate 18 = .ok (.goto (-16), 3) := by decide +kernel
theorem dX2_eliminate_21 : decode cX2_eliminate 21 = .ok (.iconst 0, 1) := by decide +kernel
theorem dX2_eliminate_22 : decode cX2_eliminate 22 = .ok (.istore_n 1, 1) := by decide +kernel
theorem dX2_eliminate_23 : decode cX2_eliminate 23 = .ok (.iload_n 1, 1) := by decide +kernel
theorem dX2_eliminate_24 : decode cX2_eliminate 24 = .ok (.bipush 13, 2) := by decide +kernel
theorem dX2_eliminate_26 : decode cX2_eliminate 26 = .ok (.if_icmp .ge 55, 3) := by decide +kernel
theorem dX2_eliminate_29 : decode cX2_eliminate 29 = .ok (.aload_n 0, 1) := by decide +kernel
theorem dX2_eliminate_30 : decode cX2_eliminate 30 = .ok (.iload_n 1, 1) := by decide +kernel
theorem dX2_eliminate_31 : decode cX2_eliminate 31 = .ok (.invokevirtual 55, 3) := by decide +kernel
theorem dX2_eliminate_34 : decode cX2_eliminate 34 = .ok (.istore_n 2, 1) := by decide +kernel
theorem dX2_eliminate_35 : decode cX2_eliminate 35 = .ok (.aload_n 0, 1) := by decide +kernel
theorem dX2_eliminate_36 : decode cX2_eliminate 36 = .ok (.getfield 20, 3) := by decide +kernel
theorem dX2_eliminate_39 : decode cX2_eliminate 39 = .ok (.iload_n 1, 1) := by decide +kernel
theorem dX2_eliminate_40 : decode cX2_eliminate 40 = .ok (.iload_n 2, 1) := by decide +kernel
theorem dX2_eliminate_41 : decode cX2_eliminate 41 = .ok (.iastore, 1) := by decide +kernel
theorem dX2_eliminate_42 : decode cX2_eliminate 42 = .ok (.iload_n 2, 1) := by decide +kernel
theorem dX2_eliminate_43 : decode cX2_eliminate 43 = .ok (.ifCond .lt 32, 3) := by decide +kernel
theorem dX2_eliminate_46 : decode cX2_eliminate 46 = .ok (.aload_n 0, 1) := by decide +kernel
theorem dX2_eliminate_47 : decode cX2_eliminate 47 = .ok (.getfield 16, 3) := by decide +kernel
theorem dX2_eliminate_50 : decode cX2_eliminate 50 = .ok (.iload_n 2, 1) := by decide +kernel
theorem dX2_eliminate_51 : decode cX2_eliminate 51 = .ok (.iconst 1, 1) := by decide +kernel
theorem dX2_eliminate_52 : decode cX2_eliminate 52 = .ok (.bastore, 1) := by decide +kernel
theorem dX2_eliminate_53 : decode cX2_eliminate 53 = .ok (.aload_n 0, 1) := by decide +kernel
theorem dX2_eliminate_54 : decode cX2_eliminate 54 = .ok (.iload_n 2, 1) := by decide +kernel
theorem dX2_eliminate_55 : decode cX2_eliminate 55 = .ok (.aload_n 0, 1) := by decide +kernel
theorem dX2_eliminate_56 : decode cX2_eliminate 56 = .ok (.getfield 11, 3) := by decide +kernel
theorem dX2_eliminate_59 : decode cX2_eliminate 59 = .ok (.iload_n 2, 1) := by decide +kernel
theorem dX2_eliminate_60 : decode cX2_eliminate 60 = .ok (.aaload, 1) := by decide +kernel
theorem dX2_eliminate_61 : decode cX2_eliminate 61 = .ok (.iload_n 1, 1) := by decide +kernel
theorem dX2_eliminate_62 : decode cX2_eliminate 62 = .ok (.iaload, 1) := by decide +kernel
theorem dX2_eliminate_63 : decode cX2_eliminate 63 = .ok (.invokestatic 58, 3) := by decide +kernel
theorem dX2_eliminate_66 : decode cX2_eliminate 66 = .ok (.invokevirtual 61, 3) := by decide +kernel
theorem dX2_eliminate_69 : decode cX2_eliminate 69 = .ok (.aload_n 0, 1) := by decide +kernel
theorem dX2_eliminate_70 : decode cX2_eliminate 70 = .ok (.iload_n 1, 1) := by decide +kernel
theorem dX2_eliminate_71 : decode cX2_eliminate 71 = .ok (.iload_n 2, 1) := by decide +kernel
theorem dX2_eliminate_72 : decode cX2_eliminate 72 = .ok (.invokevirtual 65, 3) := by decide +kernel
theorem dX2_eliminate_75 : decode cX2_eliminate 75 = .ok (.iinc 1 1, 3) := by decide +kernel
theorem dX2_eliminate_78 : decode cX2_eliminate 78 = .ok (.goto (-55), 3) := by decide +kernel
theorem dX2_eliminate_81 : decode cX2_eliminate 81 = .ok (.return_, 1) := by decide +kernel
theorem dX2_freeLine_0 : decode cX2_freeLine 0 = .ok (.iconst 0, 1) := by decide +kernel
theorem dX2_freeLine_1 : decode cX2_freeLine 1 = .ok (.istore_n 2, 1) := by decide +kernel
theorem dX2_freeLine_2 : decode cX2_freeLine 2 = .ok (.iload_n 2, 1) := by decide +kernel
theorem dX2_freeLine_3 : decode cX2_freeLine 3 = .ok (.bipush 19, 2) := by decide +kernel
theorem dX2_freeLine_5 : decode cX2_freeLine 5 = .ok (.if_icmp .ge 31, 3) := by decide +kernel
theorem dX2_freeLine_8 : decode cX2_freeLine 8 = .ok (.aload_n 0, 1) := by decide +kernel
theorem dX2_freeLine_9 : decode cX2_freeLine 9 = .ok (.getfield 16, 3) := by decide +kernel
theorem dX2_freeLine_12 : decode cX2_freeLine 12 = .ok (.iload_n 2, 1) := by decide +kernel
theorem dX2_freeLine_13 : decode cX2_freeLine 13 = .ok (.baload, 1) := by decide +kernel
theorem dX2_freeLine_14 : decode cX2_freeLine 14 = .ok (.ifCond .ne 16, 3) := by decide +kernel
theorem dX2_freeLine_17 : decode cX2_freeLine 17 = .ok (.aload_n 0, 1) := by decide +kernel
theorem dX2_freeLine_18 : decode cX2_freeLine 18 = .ok (.getfield 11, 3) := by decide +kernel
theorem dX2_freeLine_21 : decode cX2_freeLine 21 = .ok (.iload_n 2, 1) := by decide +kernel
theorem dX2_freeLine_22 : decode cX2_freeLine 22 = .ok (.aaload, 1) := by decide +kernel
theorem dX2_freeLine_23 : decode cX2_freeLine 23 = .ok (.iload_n 1, 1) := by decide +kernel
theorem dX2_freeLine_24 : decode cX2_freeLine 24 = .ok (.iaload, 1) := by decide +kernel
theorem dX2_freeLine_25 : decode cX2_freeLine 25 = .ok (.ifCond .eq 5, 3) := by decide +kernel
theorem dX2_freeLine_28 : decode cX2_freeLine 28 = .ok (.iload_n 2, 1) := by decide +kernel
theorem dX2_freeLine_29 : decode cX2_freeLine 29 = .ok (.ireturn, 1) := by decide +kernel
theorem dX2_freeLine_30 : decode cX2_freeLine 30 = .ok (.iinc 2 1, 3) := by decide +kernel
theorem dX2_freeLine_33 : decode cX2_freeLine 33 = .ok (.goto (-31), 3) := by decide +kernel
theorem dX2_freeLine_36 : decode cX2_freeLine 36 = .ok (.iconst (-1), 1) := by decide +kernel
theorem dX2_freeLine_37 : decode cX2_freeLine 37 = .ok (.ireturn, 1) := by decide +kernel
theorem dX2_scaleLine_0 : decode cX2_scaleLine 0 = .ok (.iconst 0, 1) := by decide +kernel
theorem dX2_scaleLine_1 : decode cX2_scaleLine 1 = .ok (.istore_n 3, 1) := by decide +kernel
theorem dX2_scaleLine_2 : decode cX2_scaleLine 2 = .ok (.iload_n 3, 1) := by decide +kernel
theorem dX2_scaleLine_3 : decode cX2_scaleLine 3 = .ok (.bipush 13, 2) := by decide +kernel
theorem dX2_scaleLine_5 : decode cX2_scaleLine 5 = .ok (.if_icmp .gt 31, 3) := by decide +kernel
theorem dX2_scaleLine_8 : decode cX2_scaleLine 8 = .ok (.aload_n 0, 1) := by decide +kernel
theorem dX2_scaleLine_9 : decode cX2_scaleLine 9 = .ok (.getfield 11, 3) := by decide +kernel
theorem dX2_scaleLine_12 : decode cX2_scaleLine 12 = .ok (.iload_n 1, 1) := by decide +kernel
theorem dX2_scaleLine_13 : decode cX2_scaleLine 13 = .ok (.aaload, 1) := by decide +kernel
theorem dX2_scaleLine_14 : decode cX2_scaleLine 14 = .ok (.iload_n 3, 1) := by decide +kernel
theorem dX2_scaleLine_15 : decode cX2_scaleLine 15 = .ok (.aload_n 0, 1) := by decide +kernel
theorem dX2_scaleLine_16 : decode cX2_scaleLine 16 = .ok (.getfield 11, 3) := by decide +kernel
theorem dX2_scaleLine_19 : decode cX2_scaleLine 19 = .ok (.iload_n 1, 1) := by decide +kernel
theorem dX2_scaleLine_20 : decode cX2_scaleLine 20 = .ok (.aaload, 1) := by decide +kernel
theorem dX2_scaleLine_21 : decode cX2_scaleLine 21 = .ok (.iload_n 3, 1) := by decide +kernel
theorem dX2_scaleLine_22 : decode cX2_scaleLine 22 = .ok (.iaload, 1) := by decide +kernel
theorem dX2_scaleLine_23 : decode cX2_scaleLine 23 = .ok (.iload_n 2, 1) := by decide +kernel
theorem dX2_scaleLine_24 : decode cX2_scaleLine 24 = .ok (.imul, 1) := by decide +kernel
theorem dX2_scaleLine_25 : decode cX2_scaleLine 25 = .ok (.sipush 32003, 3) := by decide +kernel
theorem dX2_scaleLine_28 : decode cX2_scaleLine 28 = .ok (.irem, 1) := by decide +kernel
theorem dX2_scaleLine_29 : decode cX2_scaleLine 29 = .ok (.iastore, 1) := by decide +kernel
theorem dX2_scaleLine_30 : decode cX2_scaleLine 30 = .ok (.iinc 3 1, 3) := by decide +kernel
theorem dX2_scaleLine_33 : decode cX2_scaleLine 33 = .ok (.goto (-31), 3) := by decide +kernel
theorem dX2_scaleLine_36 : decode cX2_scaleLine 36 = .ok (.return_, 1) := by decide +kernel
theorem dX2_clearColumn_0 : decode cX2_clearColumn 0 = .ok (.iconst 0, 1) := by decide +kernel
theorem dX2_clearColumn_1 : decode cX2_clearColumn 1 = .ok (.istore_n 3, 1) := by decide +kernel
theorem dX2_clearColumn_2 : decode cX2_clearColumn 2 = .ok (.iload_n 3, 1) := by decide +kernel
theorem dX2_clearColumn_3 : decode cX2_clearColumn 3 = .ok (.bipush 19, 2) := by decide +kernel
theorem dX2_clearColumn_5 : decode cX2_clearColumn 5 = .ok (.if_icmp .ge 80, 3) := by decide +kernel
theorem dX2_clearColumn_8 : decode cX2_clearColumn 8 = .ok (.aload_n 0, 1) := by decide +kernel
theorem dX2_clearColumn_9 : decode cX2_clearColumn 9 = .ok (.getfield 11, 3) := by decide +kernel
theorem dX2_clearColumn_12 : decode cX2_clearColumn 12 = .ok (.iload_n 3, 1) := by decide +kernel
theorem dX2_clearColumn_13 : decode cX2_clearColumn 13 = .ok (.aaload, 1) := by decide +kernel
theorem dX2_clearColumn_14 : decode cX2_clearColumn 14 = .ok (.iload_n 1, 1) := by decide +kernel
theorem dX2_clearColumn_15 : decode cX2_clearColumn 15 = .ok (.iaload, 1) := by decide +kernel
theorem dX2_clearColumn_16 : decode cX2_clearColumn 16 = .ok (.istore 4, 2) := by decide +kernel
theorem dX2_clearColumn_18 : decode cX2_clearColumn 18 = .ok (.iload_n 3, 1) := by decide +kernel
theorem dX2_clearColumn_19 : decode cX2_clearColumn 19 = .ok (.iload_n 2, 1) := by decide +kernel
theorem dX2_clearColumn_20 : decode cX2_clearColumn 20 = .ok (.if_icmp .eq 59, 3) := by decide +kernel
theorem dX2_clearColumn_23 : decode cX2_clearColumn 23 = .ok (.iload 4, 2) := by decide +kernel
theorem dX2_clearColumn_25 : decode cX2_clearColumn 25 = .ok (.ifCond .ne 6, 3) := by decide +kernel
theorem dX2_clearColumn_28 : decode cX2_clearColumn 28 = .ok (.goto 51, 3) := by decide +kernel
theorem dX2_clearColumn_31 : decode cX2_clearColumn 31 = .ok (.iload_n 1, 1) := by decide +kernel
theorem dX2_clearColumn_32 : decode cX2_clearColumn 32 = .ok (.istore 5, 2) := by decide +kernel
theorem dX2_clearColumn_34 : decode cX2_clearColumn 34 = .ok (.iload 5, 2) := by decide +kernel
theorem dX2_clearColumn_36 : decode cX2_clearColumn 36 = .ok (.bipush 13, 2) := by decide +kernel
theorem dX2_clearColumn_38 : decode cX2_clearColumn 38 = .ok (.if_icmp .gt 41, 3) := by decide +kernel
theorem dX2_clearColumn_41 : decode cX2_clearColumn 41 = .ok (.aload_n 0, 1) := by decide +kernel
theorem dX2_clearColumn_42 : decode cX2_clearColumn 42 = .ok (.getfield 11, 3) := by decide +kernel
theorem dX2_clearColumn_45 : decode cX2_clearColumn 45 = .ok (.iload_n 3, 1) := by decide +kernel
theorem dX2_clearColumn_46 : decode cX2_clearColumn 46 = .ok (.aaload, 1) := by decide +kernel
theorem dX2_clearColumn_47 : decode cX2_clearColumn 47 = .ok (.iload 5, 2) := by decide +kernel
theorem dX2_clearColumn_49 : decode cX2_clearColumn 49 = .ok (.aload_n 0, 1) := by decide +kernel
theorem dX2_clearColumn_50 : decode cX2_clearColumn 50 = .ok (.getfield 11, 3) := by decide +kernel
theorem dX2_clearColumn_53 : decode cX2_clearColumn 53 = .ok (.iload_n 3, 1) := by decide +kernel
theorem dX2_clearColumn_54 : decode cX2_clearColumn 54 = .ok (.aaload, 1) := by decide +kernel
theorem dX2_clearColumn_55 : decode cX2_clearColumn 55 = .ok (.iload 5, 2) := by decide +kernel
theorem dX2_clearColumn_57 : decode cX2_clearColumn 57 = .ok (.iaload, 1) := by decide +kernel
theorem dX2_clearColumn_58 : decode cX2_clearColumn 58 = .ok (.iload 4, 2) := by decide +kernel
theorem dX2_clearColumn_60 : decode cX2_clearColumn 60 = .ok (.aload_n 0, 1) := by decide +kernel
theorem dX2_clearColumn_61 : decode cX2_clearColumn 61 = .ok (.getfield 11, 3) := by decide +kernel
theorem dX2_clearColumn_64 : decode cX2_clearColumn 64 = .ok (.iload_n 2, 1) := by decide +kernel
theorem dX2_clearColumn_65 : decode cX2_clearColumn 65 = .ok (.aaload, 1) := by decide +kernel
theorem dX2_clearColumn_66 : decode cX2_clearColumn 66 = .ok (.iload 5, 2) := by decide +kernel
theorem dX2_clearColumn_68 : decode cX2_clearColumn 68 = .ok (.iaload, 1) := by decide +kernel
theorem dX2_clearColumn_69 : decode cX2_clearColumn 69 = .ok (.invokestatic 68, 3) := by decide +kernel
theorem dX2_clearColumn_72 : decode cX2_clearColumn 72 = .ok (.iastore, 1) := by decide +kernel
theorem dX2_clearColumn_73 : decode cX2_clearColumn 73 = .ok (.iinc 5 1, 3) := by decide +kernel
theorem dX2_clearColumn_76 : decode cX2_clearColumn 76 = .ok (.goto (-42), 3) := by decide +kernel
theorem dX2_clearColumn_79 : decode cX2_clearColumn 79 = .ok (.iinc 3 1, 3) := by decide +kernel
theorem dX2_clearColumn_82 : decode cX2_clearColumn 82 = .ok (.goto (-80), 3) := by decide +kernel
theorem dX2_clearColumn_85 : decode cX2_clearColumn 85 = .ok (.return_, 1) := by decide +kernel
theorem dX2_copyRowTo_0 : decode cX2_copyRowTo 0 = .ok (.aload_n 1, 1) := by decide +kernel
theorem dX2_copyRowTo_1 : decode cX2_copyRowTo 1 = .ok (.iconst 0, 1) := by decide +kernel
theorem dX2_copyRowTo_2 : decode cX2_copyRowTo 2 = .ok (.putfield 72, 3) := by decide +kernel
theorem dX2_copyRowTo_5 : decode cX2_copyRowTo 5 = .ok (.iconst 0, 1) := by decide +kernel
theorem dX2_copyRowTo_6 : decode cX2_copyRowTo 6 = .ok (.istore_n 2, 1) := by decide +kernel
theorem dX2_copyRowTo_7 : decode cX2_copyRowTo 7 = .ok (.iload_n 2, 1) := by decide +kernel
theorem dX2_copyRowTo_8 : decode cX2_copyRowTo 8 = .ok (.bipush 13, 2) := by decide +kernel
theorem dX2_copyRowTo_10 : decode cX2_copyRowTo 10 = .ok (.if_icmp .ge 96, 3) := by decide +kernel
theorem dX2_copyRowTo_13 : decode cX2_copyRowTo 13 = .ok (.aload_n 0, 1) := by decide +kernel
theorem dX2_copyRowTo_14 : decode cX2_copyRowTo 14 = .ok (.getfield 20, 3) := by decide +kernel
theorem dX2_copyRowTo_17 : decode cX2_copyRowTo 17 = .ok (.iload_n 2, 1) := by decide +kernel
theorem dX2_copyRowTo_18 : decode cX2_copyRowTo 18 = .ok (.iaload, 1) := by decide +kernel
theorem dX2_copyRowTo_19 : decode cX2_copyRowTo 19 = .ok (.ifCond .lt 6, 3) := by decide +kernel
theorem dX2_copyRowTo_22 : decode cX2_copyRowTo 22 = .ok (.goto 78, 3) := by decide +kernel
theorem dX2_copyRowTo_25 : decode cX2_copyRowTo 25 = .ok (.iconst 0, 1) := by decide +kernel
theorem dX2_copyRowTo_26 : decode cX2_copyRowTo 26 = .ok (.istore_n 3, 1) := by decide +kernel
theorem dX2_copyRowTo_27 : decode cX2_copyRowTo 27 = .ok (.iload_n 3, 1) := by decide +kernel
theorem dX2_copyRowTo_28 : decode cX2_copyRowTo 28 = .ok (.bipush 13, 2) := by decide +kernel
theorem dX2_copyRowTo_30 : decode cX2_copyRowTo 30 = .ok (.if_icmp .ge 60, 3) := by decide +kernel
theorem dX2_copyRowTo_33 : decode cX2_copyRowTo 33 = .ok (.aload_n 0, 1) := by decide +kernel
theorem dX2_copyRowTo_34 : decode cX2_copyRowTo 34 = .ok (.getfield 20, 3) := by decide +kernel
theorem dX2_copyRowTo_37 : decode cX2_copyRowTo 37 = .ok (.iload_n 3, 1) := by decide +kernel
theorem dX2_copyRowTo_38 : decode cX2_copyRowTo 38 = .ok (.iaload, 1) := by decide +kernel
theorem dX2_copyRowTo_39 : decode cX2_copyRowTo 39 = .ok (.istore 4, 2) := by decide +kernel
theorem dX2_copyRowTo_41 : decode cX2_copyRowTo 41 = .ok (.iload 4, 2) := by decide +kernel
theorem dX2_copyRowTo_43 : decode cX2_copyRowTo 43 = .ok (.ifCond .lt 18, 3) := by decide +kernel
theorem dX2_copyRowTo_46 : decode cX2_copyRowTo 46 = .ok (.aload_n 0, 1) := by decide +kernel
theorem dX2_copyRowTo_47 : decode cX2_copyRowTo 47 = .ok (.getfield 11, 3) := by decide +kernel
theorem dX2_copyRowTo_50 : decode cX2_copyRowTo 50 = .ok (.iload 4, 2) := by decide +kernel
theorem dX2_copyRowTo_52 : decode cX2_copyRowTo 52 = .ok (.aaload, 1) := by decide +kernel
theorem dX2_copyRowTo_53 : decode cX2_copyRowTo 53 = .ok (.iload_n 2, 1) := by decide +kernel
theorem dX2_copyRowTo_54 : decode cX2_copyRowTo 54 = .ok (.iaload, 1) := by decide +kernel
theorem dX2_copyRowTo_55 : decode cX2_copyRowTo 55 = .ok (.invokestatic 49, 3) := by decide +kernel
theorem dX2_copyRowTo_58 : decode cX2_copyRowTo 58 = .ok (.goto 4, 3) := by decide +kernel
theorem dX2_copyRowTo_61 : decode cX2_copyRowTo 61 = .ok (.iconst 0, 1) := by decide +kernel
theorem dX2_copyRowTo_62 : decode cX2_copyRowTo 62 = .ok (.istore 5, 2) := by decide +kernel
theorem dX2_copyRowTo_64 : decode cX2_copyRowTo 64 = .ok (.aload_n 1, 1) := by decide +kernel
theorem dX2_copyRowTo_65 : decode cX2_copyRowTo 65 = .ok (.aload_n 1, 1) := by decide +kernel
theorem dX2_copyRowTo_66 : decode cX2_copyRowTo 66 = .ok (.getfield 72, 3) := by decide +kernel
theorem dX2_copyRowTo_69 : decode cX2_copyRowTo 69 = .ok (.iload_n 3, 1) := by decide +kernel
theorem dX2_copyRowTo_70 : decode cX2_copyRowTo 70 = .ok (.iload_n 3, 1) := by decide +kernel
theorem dX2_copyRowTo_71 : decode cX2_copyRowTo 71 = .ok (.iload_n 2, 1) := by decide +kernel
theorem dX2_copyRowTo_72 : decode cX2_copyRowTo 72 = .ok (.if_icmp .ne 7, 3) := by decide +kernel
theorem dX2_copyRowTo_75 : decode cX2_copyRowTo 75 = .ok (.iconst 1, 1) := by decide +kernel
theorem dX2_copyRowTo_76 : decode cX2_copyRowTo 76 = .ok (.goto 5, 3) := by decide +kernel
theorem dX2_copyRowTo_79 : decode cX2_copyRowTo 79 = .ok (.iload 5, 2) := by decide +kernel
theorem dX2_copyRowTo_81 : decode cX2_copyRowTo 81 = .ok (.invokevirtual 78, 3) := by decide +kernel
theorem dX2_copyRowTo_84 : decode cX2_copyRowTo 84 = .ok (.iinc 3 1, 3) := by decide +kernel
theorem dX2_copyRowTo_87 : decode cX2_copyRowTo 87 = .ok (.goto (-60), 3) := by decide +kernel
theorem dX2_copyRowTo_90 : decode cX2_copyRowTo 90 = .ok (.aload_n 1, 1) := by decide +kernel
theorem dX2_copyRowTo_91 : decode cX2_copyRowTo 91 = .ok (.dup, 1) := by decide +kernel
theorem dX2_copyRowTo_92 : decode cX2_copyRowTo 92 = .ok (.getfield 72, 3) := by decide +kernel
theorem dX2_copyRowTo_95 : decode cX2_copyRowTo 95 = .ok (.iconst 1, 1) := by decide +kernel
theorem dX2_copyRowTo_96 : decode cX2_copyRowTo 96 = .ok (.iadd, 1) := by decide +kernel
theorem dX2_copyRowTo_97 : decode cX2_copyRowTo 97 = .ok (.putfield 72, 3) := by decide +kernel
theorem dX2_copyRowTo_100 : decode cX2_copyRowTo 100 = .ok (.iinc 2 1, 3) := by decide +kernel
theorem dX2_copyRowTo_103 : decode cX2_copyRowTo 103 = .ok (.goto (-96), 3) := by decide +kernel
theorem dX2_copyRowTo_106 : decode cX2_copyRowTo 106 = .ok (.return_, 1) := by decide +kernel
theorem dX2_copyParticularTo_0 : decode cX2_copyParticularTo 0 = .ok (.iconst 0, 1) := by decide +kernel
theorem dX2_copyParticularTo_1 : decode cX2_copyParticularTo 1 = .ok (.istore_n 2, 1) := by decide +kernel
theorem dX2_copyParticularTo_2 : decode cX2_copyParticularTo 2 = .ok (.iload_n 2, 1) := by decide +kernel
theorem dX2_copyParticularTo_3 : decode cX2_copyParticularTo 3 = .ok (.bipush 19, 2) := by decide +kernel
theorem dX2_copyParticularTo_5 : decode cX2_copyParticularTo 5 = .ok (.if_icmp .ge 32, 3) := by decide +kernel
theorem dX2_copyParticularTo_8 : decode cX2_copyParticularTo 8 = .ok (.aload_n 0, 1) := by decide +kernel
theorem dX2_copyParticularTo_9 : decode cX2_copyParticularTo 9 = .ok (.getfield 16, 3) := by decide +kernel
theorem dX2_copyParticularTo_12 : decode cX2_copyParticularTo 12 = .ok (.iload_n 2, 1) := by decide +kernel
theorem dX2_copyParticularTo_13 : decode cX2_copyParticularTo 13 = .ok (.baload, 1) := by decide +kernel
theorem dX2_copyParticularTo_14 : decode cX2_copyParticularTo 14 = .ok (.ifCond .ne 17, 3) := by decide +kernel
theorem dX2_copyParticularTo_17 : decode cX2_copyParticularTo 17 = .ok (.aload_n 0, 1) := by decide +kernel
theorem dX2_copyParticularTo_18 : decode cX2_copyParticularTo 18 = .ok (.getfield 11, 3) := by decide +kernel
theorem dX2_copyParticularTo_21 : decode cX2_copyParticularTo 21 = .ok (.iload_n 2, 1) := by decide +kernel
theorem dX2_copyParticularTo_22 : decode cX2_copyParticularTo 22 = .ok (.aaload, 1) := by decide +kernel
theorem dX2_copyParticularTo_23 : decode cX2_copyParticularTo 23 = .ok (.bipush 13, 2) := by decide +kernel
theorem dX2_copyParticularTo_25 : decode cX2_copyParticularTo 25 = .ok (.iaload, 1) := by decide +kernel
theorem dX2_copyParticularTo_26 : decode cX2_copyParticularTo 26 = .ok (.ifCond .eq 5, 3) := by decide +kernel
theorem dX2_copyParticularTo_29 : decode cX2_copyParticularTo 29 = .ok (.iconst 0, 1) := by decide +kernel
theorem dX2_copyParticularTo_30 : decode cX2_copyParticularTo 30 = .ok (.ireturn, 1) := by decide +kernel
theorem dX2_copyParticularTo_31 : decode cX2_copyParticularTo 31 = .ok (.iinc 2 1, 3) := by decide +kernel
theorem dX2_copyParticularTo_34 : decode cX2_copyParticularTo 34 = .ok (.goto (-32), 3) := by decide +kernel
theorem dX2_copyParticularTo_37 : decode cX2_copyParticularTo 37 = .ok (.iconst 0, 1) := by decide +kernel
theorem dX2_copyParticularTo_38 : decode cX2_copyParticularTo 38 = .ok (.istore_n 2, 1) := by decide +kernel
theorem dX2_copyParticularTo_39 : decode cX2_copyParticularTo 39 = .ok (.iload_n 2, 1) := by decide +kernel
theorem dX2_copyParticularTo_40 : decode cX2_copyParticularTo 40 = .ok (.bipush 13, 2) := by decide +kernel
theorem dX2_copyParticularTo_42 : decode cX2_copyParticularTo 42 = .ok (.if_icmp .ge 42, 3) := by decide +kernel
theorem dX2_copyParticularTo_45 : decode cX2_copyParticularTo 45 = .ok (.iload_n 2, 1) := by decide +kernel
theorem dX2_copyParticularTo_46 : decode cX2_copyParticularTo 46 = .ok (.aload_n 1, 1) := by decide +kernel
theorem dX2_copyParticularTo_47 : decode cX2_copyParticularTo 47 = .ok (.arraylength, 1) := by decide +kernel
theorem dX2_copyParticularTo_48 : decode cX2_copyParticularTo 48 = .ok (.if_icmp .ge 36, 3) := by decide +kernel
theorem dX2_copyParticularTo_51 : decode cX2_copyParticularTo 51 = .ok (.aload_n 0, 1) := by decide +kernel
theorem dX2_copyParticularTo_52 : decode cX2_copyParticularTo 52 = .ok (.getfield 20, 3) := by decide +kernel
theorem dX2_copyParticularTo_55 : decode cX2_copyParticularTo 55 = .ok (.iload_n 2, 1) := by decide +kernel
theorem dX2_copyParticularTo_56 : decode cX2_copyParticularTo 56 = .ok (.iaload, 1) := by decide +kernel
theorem dX2_copyParticularTo_57 : decode cX2_copyParticularTo 57 = .ok (.istore_n 3, 1) := by decide +kernel
theorem dX2_copyParticularTo_58 : decode cX2_copyParticularTo 58 = .ok (.aload_n 1, 1) := by decide +kernel
theorem dX2_copyParticularTo_59 : decode cX2_copyParticularTo 59 = .ok (.iload_n 2, 1) := by decide +kernel
theorem dX2_copyParticularTo_60 : decode cX2_copyParticularTo 60 = .ok (.iload_n 3, 1) := by decide +kernel
theorem dX2_copyParticularTo_61 : decode cX2_copyParticularTo 61 = .ok (.ifCond .lt 15, 3) := by decide +kernel
theorem dX2_copyParticularTo_64 : decode cX2_copyParticularTo 64 = .ok (.aload_n 0, 1) := by decide +kernel
theorem dX2_copyParticularTo_65 : decode cX2_copyParticularTo 65 = .ok (.getfield 11, 3) := by decide +kernel
theorem dX2_copyParticularTo_68 : decode cX2_copyParticularTo 68 = .ok (.iload_n 3, 1) := by decide +kernel
theorem dX2_copyParticularTo_69 : decode cX2_copyParticularTo 69 = .ok (.aaload, 1) := by decide +kernel
theorem dX2_copyParticularTo_70 : decode cX2_copyParticularTo 70 = .ok (.bipush 13, 2) := by decide +kernel
theorem dX2_copyParticularTo_72 : decode cX2_copyParticularTo 72 = .ok (.iaload, 1) := by decide +kernel
theorem dX2_copyParticularTo_73 : decode cX2_copyParticularTo 73 = .ok (.goto 4, 3) := by decide +kernel
theorem dX2_copyParticularTo_76 : decode cX2_copyParticularTo 76 = .ok (.iconst 0, 1) := by decide +kernel
theorem dX2_copyParticularTo_77 : decode cX2_copyParticularTo 77 = .ok (.iastore, 1) := by decide +kernel
theorem dX2_copyParticularTo_78 : decode cX2_copyParticularTo 78 = .ok (.iinc 2 1, 3) := by decide +kernel
theorem dX2_copyParticularTo_81 : decode cX2_copyParticularTo 81 = .ok (.goto (-42), 3) := by decide +kernel
theorem dX2_copyParticularTo_84 : decode cX2_copyParticularTo 84 = .ok (.iconst 1, 1) := by decide +kernel
theorem dX2_copyParticularTo_85 : decode cX2_copyParticularTo 85 = .ok (.ireturn, 1) := by decide +kernel
theorem dX3_of_0 : decode cX3_of 0 = .ok (.lload_n 0, 1) := by decide +kernel
theorem dX3_of_1 : decode cX3_of 1 = .ok (.ldc2_w 9, 3) := by decide +kernel
theorem dX3_of_4 : decode cX3_of 4 = .ok (.invokestatic 11, 3) := by decide +kernel
theorem dX3_of_7 : decode cX3_of 7 = .ok (.l2i, 1) := by decide +kernel
theorem dX3_of_8 : decode cX3_of 8 = .ok (.ireturn, 1) := by decide +kernel
theorem dX3_inverse_0 : decode cX3_inverse 0 = .ok (.iconst 1, 1) := by decide +kernel
theorem dX3_inverse_1 : decode cX3_inverse 1 = .ok (.istore_n 1, 1) := by decide +kernel
theorem dX3_inverse_2 : decode cX3_inverse 2 = .ok (.iload_n 0, 1) := by decide +kernel
theorem dX3_inverse_3 : decode cX3_inverse 3 = .ok (.istore_n 2, 1) := by decide +kernel
theorem dX3_inverse_4 : decode cX3_inverse 4 = .ok (.sipush 32001, 3) := by decide +kernel
theorem dX3_inverse_7 : decode cX3_inverse 7 = .ok (.istore_n 3, 1) := by decide +kernel
theorem dX3_inverse_8 : decode cX3_inverse 8 = .ok (.iload_n 3, 1) := by decide +kernel
theorem dX3_inverse_9 : decode cX3_inverse 9 = .ok (.ifCond .le 33, 3) := by decide +kernel
theorem dX3_inverse_12 : decode cX3_inverse 12 = .ok (.iload_n 3, 1) := by decide +kernel
theorem dX3_inverse_13 : decode cX3_inverse 13 = .ok (.iconst 1, 1) := by decide +kernel
theorem dX3_inverse_14 : decode cX3_inverse 14 = .ok (.iand, 1) := by decide +kernel
theorem dX3_inverse_15 : decode cX3_inverse 15 = .ok (.iconst 1, 1) := by decide +kernel
theorem dX3_inverse_16 : decode cX3_inverse 16 = .ok (.if_icmp .ne 11, 3) := by decide +kernel
theorem dX3_inverse_19 : decode cX3_inverse 19 = .ok (.iload_n 1, 1) := by decide +kernel
theorem dX3_inverse_20 : decode cX3_inverse 20 = .ok (.iload_n 2, 1) := by decide +kernel
theorem dX3_inverse_21 : decode cX3_inverse 21 = .ok (.imul, 1) := by decide +kernel
theorem dX3_inverse_22 : decode cX3_inverse 22 = .ok (.sipush 32003, 3) := by decide +kernel
theorem dX3_inverse_25 : decode cX3_inverse 25 = .ok (.irem, 1) := by decide +kernel
theorem dX3_inverse_26 : decode cX3_inverse 26 = .ok (.istore_n 1, 1) := by decide +kernel
theorem dX3_inverse_27 : decode cX3_inverse 27 = .ok (.iload_n 2, 1) := by decide +kernel
theorem dX3_inverse_28 : decode cX3_inverse 28 = .ok (.iload_n 2, 1) := by decide +kernel
theorem dX3_inverse_29 : decode cX3_inverse 29 = .ok (.imul, 1) := by decide +kernel
theorem dX3_inverse_30 : decode cX3_inverse 30 = .ok (.sipush 32003, 3) := by decide +kernel
theorem dX3_inverse_33 : decode cX3_inverse 33 = .ok (.irem, 1) := by decide +kernel
theorem dX3_inverse_34 : decode cX3_inverse 34 = .ok (.istore_n 2, 1) := by decide +kernel
theorem dX3_inverse_35 : decode cX3_inverse 35 = .ok (.iload_n 3, 1) := by decide +kernel
theorem dX3_inverse_36 : decode cX3_inverse 36 = .ok (.iconst 1, 1) := by decide +kernel
theorem dX3_inverse_37 : decode cX3_inverse 37 = .ok (.ishr, 1) := by decide +kernel
theorem dX3_inverse_38 : decode cX3_inverse 38 = .ok (.istore_n 3, 1) := by decide +kernel
theorem dX3_inverse_39 : decode cX3_inverse 39 = .ok (.goto (-31), 3) := by decide +kernel
theorem dX3_inverse_42 : decode cX3_inverse 42 = .ok (.iload_n 1, 1) := by decide +kernel
theorem dX3_inverse_43 : decode cX3_inverse 43 = .ok (.ireturn, 1) := by decide +kernel
theorem dX3_quotient_0 : decode cX3_quotient 0 = .ok (.lload_n 0, 1) := by decide +kernel
theorem dX3_quotient_1 : decode cX3_quotient 1 = .ok (.invokestatic 17, 3) := by decide +kernel
theorem dX3_quotient_4 : decode cX3_quotient 4 = .ok (.lload_n 2, 1) := by decide +kernel
theorem dX3_quotient_5 : decode cX3_quotient 5 = .ok (.invokestatic 17, 3) := by decide +kernel
theorem dX3_quotient_8 : decode cX3_quotient 8 = .ok (.invokestatic 23, 3) := by decide +kernel
theorem dX3_quotient_11 : decode cX3_quotient 11 = .ok (.imul, 1) := by decide +kernel
theorem dX3_quotient_12 : decode cX3_quotient 12 = .ok (.sipush 32003, 3) := by decide +kernel
theorem dX3_quotient_15 : decode cX3_quotient 15 = .ok (.irem, 1) := by decide +kernel
theorem dX3_quotient_16 : decode cX3_quotient 16 = .ok (.ireturn, 1) := by decide +kernel
theorem dX3_negative_0 : decode cX3_negative 0 = .ok (.iload_n 0, 1) := by decide +kernel
theorem dX3_negative_1 : decode cX3_negative 1 = .ok (.ifCond .ne 7, 3) := by decide +kernel
theorem dX3_negative_4 : decode cX3_negative 4 = .ok (.iconst 0, 1) := by decide +kernel
theorem dX3_negative_5 : decode cX3_negative 5 = .ok (.goto 8, 3) := by decide +kernel
theorem dX3_negative_8 : decode cX3_negative 8 = .ok (.sipush 32003, 3) := by decide +kernel
theorem dX3_negative_11 : decode cX3_negative 11 = .ok (.iload_n 0, 1) := by decide +kernel
theorem dX3_negative_12 : decode cX3_negative 12 = .ok (.isub, 1) := by decide +kernel
theorem dX3_negative_13 : decode cX3_negative 13 = .ok (.ireturn, 1) := by decide +kernel
theorem dX3_less_0 : decode cX3_less 0 = .ok (.iload_n 0, 1) := by decide +kernel
theorem dX3_less_1 : decode cX3_less 1 = .ok (.iload_n 1, 1) := by decide +kernel
theorem dX3_less_2 : decode cX3_less 2 = .ok (.iload_n 2, 1) := by decide +kernel
theorem dX3_less_3 : decode cX3_less 3 = .ok (.imul, 1) := by decide +kernel
theorem dX3_less_4 : decode cX3_less 4 = .ok (.sipush 32003, 3) := by decide +kernel
theorem dX3_less_7 : decode cX3_less 7 = .ok (.irem, 1) := by decide +kernel
theorem dX3_less_8 : decode cX3_less 8 = .ok (.isub, 1) := by decide +kernel
theorem dX3_less_9 : decode cX3_less 9 = .ok (.istore_n 3, 1) := by decide +kernel
theorem dX3_less_10 : decode cX3_less 10 = .ok (.iload_n 3, 1) := by decide +kernel
theorem dX3_less_11 : decode cX3_less 11 = .ok (.ifCond .ge 11, 3) := by decide +kernel
theorem dX3_less_14 : decode cX3_less 14 = .ok (.iload_n 3, 1) := by decide +kernel
theorem dX3_less_15 : decode cX3_less 15 = .ok (.sipush 32003, 3) := by decide +kernel
theorem dX3_less_18 : decode cX3_less 18 = .ok (.iadd, 1) := by decide +kernel
theorem dX3_less_19 : decode cX3_less 19 = .ok (.goto 4, 3) := by decide +kernel
theorem dX3_less_22 : decode cX3_less 22 = .ok (.iload_n 3, 1) := by decide +kernel
theorem dX3_less_23 : decode cX3_less 23 = .ok (.ireturn, 1) := by decide +kernel
theorem dX4_degree_0 : decode cX4_degree 0 = .ok (.aload_n 0, 1) := by decide +kernel
theorem dX4_degree_1 : decode cX4_degree 1 = .ok (.arraylength, 1) := by decide +kernel
theorem dX4_degree_2 : decode cX4_degree 2 = .ok (.iconst 1, 1) := by decide +kernel
theorem dX4_degree_3 : decode cX4_degree 3 = .ok (.isub, 1) := by decide +kernel
theorem dX4_degree_4 : decode cX4_degree 4 = .ok (.istore_n 1, 1) := by decide +kernel
theorem dX4_degree_5 : decode cX4_degree 5 = .ok (.iload_n 1, 1) := by decide +kernel
theorem dX4_degree_6 : decode cX4_degree 6 = .ok (.ifCond .lt 17, 3) := by decide +kernel
theorem dX4_degree_9 : decode cX4_degree 9 = .ok (.aload_n 0, 1) := by decide +kernel
theorem dX4_degree_10 : decode cX4_degree 10 = .ok (.iload_n 1, 1) := by decide +kernel
theorem dX4_degree_11 : decode cX4_degree 11 = .ok (.iaload, 1) := by decide +kernel
theorem dX4_degree_12 : decode cX4_degree 12 = .ok (.ifCond .eq 5, 3) := by decide +kernel
theorem dX4_degree_15 : decode cX4_degree 15 = .ok (.iload_n 1, 1) := by decide +kernel
theorem dX4_degree_16 : decode cX4_degree 16 = .ok (.ireturn, 1) := by decide +kernel
theorem dX4_degree_17 : decode cX4_degree 17 = .ok (.iinc 1 (-1), 3) := by decide +kernel
theorem dX4_degree_20 : decode cX4_degree 20 = .ok (.goto (-15), 3) := by decide +kernel
theorem dX4_degree_23 : decode cX4_degree 23 = .ok (.iconst (-1), 1) := by decide +kernel
theorem dX4_degree_24 : decode cX4_degree 24 = .ok (.ireturn, 1) := by decide +kernel
theorem dX4_valueAt_0 : decode cX4_valueAt 0 = .ok (.iconst 0, 1) := by decide +kernel
theorem dX4_valueAt_1 : decode cX4_valueAt 1 = .ok (.istore_n 2, 1) := by decide +kernel
theorem dX4_valueAt_2 : decode cX4_valueAt 2 = .ok (.aload_n 0, 1) := by decide +kernel
theorem dX4_valueAt_3 : decode cX4_valueAt 3 = .ok (.arraylength, 1) := by decide +kernel
theorem dX4_valueAt_4 : decode cX4_valueAt 4 = .ok (.iconst 1, 1) := by decide +kernel
theorem dX4_valueAt_5 : decode cX4_valueAt 5 = .ok (.isub, 1) := by decide +kernel
theorem dX4_valueAt_6 : decode cX4_valueAt 6 = .ok (.istore_n 3, 1) := by decide +kernel
theorem dX4_valueAt_7 : decode cX4_valueAt 7 = .ok (.iload_n 3, 1) := by decide +kernel
theorem dX4_valueAt_8 : decode cX4_valueAt 8 = .ok (.ifCond .lt 21, 3) := by decide +kernel
theorem dX4_valueAt_11 : decode cX4_valueAt 11 = .ok (.iload_n 2, 1) := by decide +kernel
theorem dX4_valueAt_12 : decode cX4_valueAt 12 = .ok (.iload_n 1, 1) := by decide +kernel
theorem dX4_valueAt_13 : decode cX4_valueAt 13 = .ok (.imul, 1) := by decide +kernel
theorem dX4_valueAt_14 : decode cX4_valueAt 14 = .ok (.aload_n 0, 1) := by decide +kernel
theorem dX4_valueAt_15 : decode cX4_valueAt 15 = .ok (.iload_n 3, 1) := by decide +kernel
theorem dX4_valueAt_16 : decode cX4_valueAt 16 = .ok (.iaload, 1) := by decide +kernel
theorem dX4_valueAt_17 : decode cX4_valueAt 17 = .ok (.iadd, 1) := by decide +kernel
theorem dX4_valueAt_18 : decode cX4_valueAt 18 = .ok (.sipush 32003, 3) := by decide +kernel
theorem dX4_valueAt_21 : decode cX4_valueAt 21 = .ok (.irem, 1) := by decide +kernel
theorem dX4_valueAt_22 : decode cX4_valueAt 22 = .ok (.istore_n 2, 1) := by decide +kernel
theorem dX4_valueAt_23 : decode cX4_valueAt 23 = .ok (.iinc 3 (-1), 3) := by decide +kernel
theorem dX4_valueAt_26 : decode cX4_valueAt 26 = .ok (.goto (-19), 3) := by decide +kernel
theorem dX4_valueAt_29 : decode cX4_valueAt 29 = .ok (.iload_n 2, 1) := by decide +kernel
theorem dX4_valueAt_30 : decode cX4_valueAt 30 = .ok (.ireturn, 1) := by decide +kernel
theorem dX4_makeMonic_0 : decode cX4_makeMonic 0 = .ok (.aload_n 0, 1) := by decide +kernel
theorem dX4_makeMonic_1 : decode cX4_makeMonic 1 = .ok (.invokestatic 9, 3) := by decide +kernel
theorem dX4_makeMonic_4 : decode cX4_makeMonic 4 = .ok (.istore_n 1, 1) := by decide +kernel
theorem dX4_makeMonic_5 : decode cX4_makeMonic 5 = .ok (.iload_n 1, 1) := by decide +kernel
theorem dX4_makeMonic_6 : decode cX4_makeMonic 6 = .ok (.ifCond .lt 10, 3) := by decide +kernel
theorem dX4_makeMonic_9 : decode cX4_makeMonic 9 = .ok (.aload_n 0, 1) := by decide +kernel
theorem dX4_makeMonic_10 : decode cX4_makeMonic 10 = .ok (.iload_n 1, 1) := by decide +kernel
theorem dX4_makeMonic_11 : decode cX4_makeMonic 11 = .ok (.iaload, 1) := by decide +kernel
theorem dX4_makeMonic_12 : decode cX4_makeMonic 12 = .ok (.iconst 1, 1) := by decide +kernel
theorem dX4_makeMonic_13 : decode cX4_makeMonic 13 = .ok (.if_icmp .ne 4, 3) := by decide +kernel
theorem dX4_makeMonic_16 : decode cX4_makeMonic 16 = .ok (.return_, 1) := by decide +kernel
theorem dX4_makeMonic_17 : decode cX4_makeMonic 17 = .ok (.aload_n 0, 1) := by decide +kernel
theorem dX4_makeMonic_18 : decode cX4_makeMonic 18 = .ok (.iload_n 1, 1) := by decide +kernel
theorem dX4_makeMonic_19 : decode cX4_makeMonic 19 = .ok (.iaload, 1) := by decide +kernel
theorem dX4_makeMonic_20 : decode cX4_makeMonic 20 = .ok (.invokestatic 15, 3) := by decide +kernel
theorem dX4_makeMonic_23 : decode cX4_makeMonic 23 = .ok (.istore_n 2, 1) := by decide +kernel
theorem dX4_makeMonic_24 : decode cX4_makeMonic 24 = .ok (.iconst 0, 1) := by decide +kernel
theorem dX4_makeMonic_25 : decode cX4_makeMonic 25 = .ok (.istore_n 3, 1) := by decide +kernel
theorem dX4_makeMonic_26 : decode cX4_makeMonic 26 = .ok (.iload_n 3, 1) := by decide +kernel
theorem dX4_makeMonic_27 : decode cX4_makeMonic 27 = .ok (.iload_n 1, 1) := by decide +kernel
theorem dX4_makeMonic_28 : decode cX4_makeMonic 28 = .ok (.if_icmp .gt 21, 3) := by decide +kernel
theorem dX4_makeMonic_31 : decode cX4_makeMonic 31 = .ok (.aload_n 0, 1) := by decide +kernel
theorem dX4_makeMonic_32 : decode cX4_makeMonic 32 = .ok (.iload_n 3, 1) := by decide +kernel
theorem dX4_makeMonic_33 : decode cX4_makeMonic 33 = .ok (.aload_n 0, 1) := by decide +kernel
theorem dX4_makeMonic_34 : decode cX4_makeMonic 34 = .ok (.iload_n 3, 1) := by decide +kernel
theorem dX4_makeMonic_35 : decode cX4_makeMonic 35 = .ok (.iaload, 1) := by decide +kernel
theorem dX4_makeMonic_36 : decode cX4_makeMonic 36 = .ok (.iload_n 2, 1) := by decide +kernel
theorem dX4_makeMonic_37 : decode cX4_makeMonic 37 = .ok (.imul, 1) := by decide +kernel
theorem dX4_makeMonic_38 : decode cX4_makeMonic 38 = .ok (.sipush 32003, 3) := by decide +kernel
theorem dX4_makeMonic_41 : decode cX4_makeMonic 41 = .ok (.irem, 1) := by decide +kernel
theorem dX4_makeMonic_42 : decode cX4_makeMonic 42 = .ok (.iastore, 1) := by decide +kernel
theorem dX4_makeMonic_43 : decode cX4_makeMonic 43 = .ok (.iinc 3 1, 3) := by decide +kernel
theorem dX4_makeMonic_46 : decode cX4_makeMonic 46 = .ok (.goto (-20), 3) := by decide +kernel
theorem dX4_makeMonic_49 : decode cX4_makeMonic 49 = .ok (.return_, 1) := by decide +kernel
theorem dX4_multiplyByLinear_0 : decode cX4_multiplyByLinear 0 = .ok (.aload_n 0, 1) := by decide +kernel
theorem dX4_multiplyByLinear_1 : decode cX4_multiplyByLinear 1 = .ok (.arraylength, 1) := by decide +kernel
theorem dX4_multiplyByLinear_2 : decode cX4_multiplyByLinear 2 = .ok (.iconst 1, 1) := by decide +kernel
theorem dX4_multiplyByLinear_3 : decode cX4_multiplyByLinear 3 = .ok (.isub, 1) := by decide +kernel
theorem dX4_multiplyByLinear_4 : decode cX4_multiplyByLinear 4 = .ok (.istore_n 2, 1) := by decide +kernel
theorem dX4_multiplyByLinear_5 : decode cX4_multiplyByLinear 5 = .ok (.iload_n 2, 1) := by decide +kernel
theorem dX4_multiplyByLinear_6 : decode cX4_multiplyByLinear 6 = .ok (.iconst 1, 1) := by decide +kernel
theorem dX4_multiplyByLinear_7 : decode cX4_multiplyByLinear 7 = .ok (.if_icmp .lt 27, 3) := by decide +kernel
theorem dX4_multiplyByLinear_10 : decode cX4_multiplyByLinear 10 = .ok (.aload_n 0, 1) := by decide +kernel
theorem dX4_multiplyByLinear_11 : decode cX4_multiplyByLinear 11 = .ok (.iload_n 2, 1) := by decide +kernel
theorem dX4_multiplyByLinear_12 : decode cX4_multiplyByLinear 12 = .ok (.aload_n 0, 1) := by decide +kernel
theorem dX4_multiplyByLinear_13 : decode cX4_multiplyByLinear 13 = .ok (.iload_n 2, 1) := by decide +kernel
theorem dX4_multiplyByLinear_14 : decode cX4_multiplyByLinear 14 = .ok (.iaload, 1) := by decide +kernel
theorem dX4_multiplyByLinear_15 : decode cX4_multiplyByLinear 15 = .ok (.iload_n 1, 1) := by decide +kernel
theorem dX4_multiplyByLinear_16 : decode cX4_multiplyByLinear 16 = .ok (.imul, 1) := by decide +kernel
theorem dX4_multiplyByLinear_17 : decode cX4_multiplyByLinear 17 = .ok (.aload_n 0, 1) := by decide +kernel
theorem dX4_multiplyByLinear_18 : decode cX4_multiplyByLinear 18 = .ok (.iload_n 2, 1) := by decide +kernel
theorem dX4_multiplyByLinear_19 : decode cX4_multiplyByLinear 19 = .ok (.iconst 1, 1) := by decide +kernel
theorem dX4_multiplyByLinear_20 : decode cX4_multiplyByLinear 20 = .ok (.isub, 1) := by decide +kernel
theorem dX4_multiplyByLinear_21 : decode cX4_multiplyByLinear 21 = .ok (.iaload, 1) := by decide +kernel
theorem dX4_multiplyByLinear_22 : decode cX4_multiplyByLinear 22 = .ok (.iadd, 1) := by decide +kernel
theorem dX4_multiplyByLinear_23 : decode cX4_multiplyByLinear 23 = .ok (.sipush 32003, 3) := by decide +kernel
theorem dX4_multiplyByLinear_26 : decode cX4_multiplyByLinear 26 = .ok (.irem, 1) := by decide +kernel
theorem dX4_multiplyByLinear_27 : decode cX4_multiplyByLinear 27 = .ok (.iastore, 1) := by decide +kernel
theorem dX4_multiplyByLinear_28 : decode cX4_multiplyByLinear 28 = .ok (.iinc 2 (-1), 3) := by decide +kernel
theorem dX4_multiplyByLinear_31 : decode cX4_multiplyByLinear 31 = .ok (.goto (-26), 3) := by decide +kernel
theorem dX4_multiplyByLinear_34 : decode cX4_multiplyByLinear 34 = .ok (.aload_n 0, 1) := by decide +kernel
theorem dX4_multiplyByLinear_35 : decode cX4_multiplyByLinear 35 = .ok (.arraylength, 1) := by decide +kernel
theorem dX4_multiplyByLinear_36 : decode cX4_multiplyByLinear 36 = .ok (.ifCond .le 15, 3) := by decide +kernel
theorem dX4_multiplyByLinear_39 : decode cX4_multiplyByLinear 39 = .ok (.aload_n 0, 1) := by decide +kernel
theorem dX4_multiplyByLinear_40 : decode cX4_multiplyByLinear 40 = .ok (.iconst 0, 1) := by decide +kernel
theorem dX4_multiplyByLinear_41 : decode cX4_multiplyByLinear 41 = .ok (.aload_n 0, 1) := by decide +kernel
theorem dX4_multiplyByLinear_42 : decode cX4_multiplyByLinear 42 = .ok (.iconst 0, 1) := by decide +kernel
theorem dX4_multiplyByLinear_43 : decode cX4_multiplyByLinear 43 = .ok (.iaload, 1) := by decide +kernel
theorem dX4_multiplyByLinear_44 : decode cX4_multiplyByLinear 44 = .ok (.iload_n 1, 1) := by decide +kernel
theorem dX4_multiplyByLinear_45 : decode cX4_multiplyByLinear 45 = .ok (.imul, 1) := by decide +kernel
theorem dX4_multiplyByLinear_46 : decode cX4_multiplyByLinear 46 = .ok (.sipush 32003, 3) := by decide +kernel
theorem dX4_multiplyByLinear_49 : decode cX4_multiplyByLinear 49 = .ok (.irem, 1) := by decide +kernel
theorem dX4_multiplyByLinear_50 : decode cX4_multiplyByLinear 50 = .ok (.iastore, 1) := by decide +kernel
theorem dX4_multiplyByLinear_51 : decode cX4_multiplyByLinear 51 = .ok (.return_, 1) := by decide +kernel
theorem dX4_reduceBy_0 : decode cX4_reduceBy 0 = .ok (.aload_n 1, 1) := by decide +kernel
theorem dX4_reduceBy_1 : decode cX4_reduceBy 1 = .ok (.invokestatic 9, 3) := by decide +kernel
theorem dX4_reduceBy_4 : decode cX4_reduceBy 4 = .ok (.istore_n 2, 1) := by decide +kernel
theorem dX4_reduceBy_5 : decode cX4_reduceBy 5 = .ok (.iload_n 2, 1) := by decide +kernel
theorem dX4_reduceBy_6 : decode cX4_reduceBy 6 = .ok (.ifCond .ge 4, 3) := by decide +kernel
theorem dX4_reduceBy_9 : decode cX4_reduceBy 9 = .ok (.return_, 1) := by decide +kernel
theorem dX4_reduceBy_10 : decode cX4_reduceBy 10 = .ok (.aload_n 0, 1) := by decide +kernel
theorem dX4_reduceBy_11 : decode cX4_reduceBy 11 = .ok (.arraylength, 1) := by decide +kernel
theorem dX4_reduceBy_12 : decode cX4_reduceBy 12 = .ok (.iconst 1, 1) := by decide +kernel
theorem dX4_reduceBy_13 : decode cX4_reduceBy 13 = .ok (.isub, 1) := by decide +kernel
theorem dX4_reduceBy_14 : decode cX4_reduceBy 14 = .ok (.istore_n 3, 1) := by decide +kernel
theorem dX4_reduceBy_15 : decode cX4_reduceBy 15 = .ok (.iload_n 3, 1) := by decide +kernel
theorem dX4_reduceBy_16 : decode cX4_reduceBy 16 = .ok (.iload_n 2, 1) := by decide +kernel
theorem dX4_reduceBy_17 : decode cX4_reduceBy 17 = .ok (.if_icmp .lt 62, 3) := by decide +kernel
theorem dX4_reduceBy_20 : decode cX4_reduceBy 20 = .ok (.aload_n 0, 1) := by decide +kernel
theorem dX4_reduceBy_21 : decode cX4_reduceBy 21 = .ok (.iload_n 3, 1) := by decide +kernel
theorem dX4_reduceBy_22 : decode cX4_reduceBy 22 = .ok (.iaload, 1) := by decide +kernel
theorem dX4_reduceBy_23 : decode cX4_reduceBy 23 = .ok (.istore 4, 2) := by decide +kernel
theorem dX4_reduceBy_25 : decode cX4_reduceBy 25 = .ok (.iload 4, 2) := by decide +kernel
theorem dX4_reduceBy_27 : decode cX4_reduceBy 27 = .ok (.ifCond .ne 6, 3) := by decide +kernel
theorem dX4_reduceBy_30 : decode cX4_reduceBy 30 = .ok (.goto 43, 3) := by decide +kernel
theorem dX4_reduceBy_33 : decode cX4_reduceBy 33 = .ok (.iconst 0, 1) := by decide +kernel
theorem dX4_reduceBy_34 : decode cX4_reduceBy 34 = .ok (.istore 5, 2) := by decide +kernel
theorem dX4_reduceBy_36 : decode cX4_reduceBy 36 = .ok (.iload 5, 2) := by decide +kernel
theorem dX4_reduceBy_38 : decode cX4_reduceBy 38 = .ok (.iload_n 2, 1) := by decide +kernel
theorem dX4_reduceBy_39 : decode cX4_reduceBy 39 = .ok (.if_icmp .gt 34, 3) := by decide +kernel
theorem dX4_reduceBy_42 : decode cX4_reduceBy 42 = .ok (.iload_n 3, 1) := by decide +kernel
theorem dX4_reduceBy_43 : decode cX4_reduceBy 43 = .ok (.iload_n 2, 1) := by decide +kernel
theorem dX4_reduceBy_44 : decode cX4_reduceBy 44 = .ok (.isub, 1) := by decide +kernel
theorem dX4_reduceBy_45 : decode cX4_reduceBy 45 = .ok (.iload 5, 2) := by decide +kernel
theorem dX4_reduceBy_47 : decode cX4_reduceBy 47 = .ok (.iadd, 1) := by decide +kernel
theorem dX4_reduceBy_48 : decode cX4_reduceBy 48 = .ok (.istore 6, 2) := by decide +kernel
theorem dX4_reduceBy_50 : decode cX4_reduceBy 50 = .ok (.aload_n 0, 1) := by decide +kernel
theorem dX4_reduceBy_51 : decode cX4_reduceBy 51 = .ok (.iload 6, 2) := by decide +kernel
theorem dX4_reduceBy_53 : decode cX4_reduceBy 53 = .ok (.aload_n 0, 1) := by decide +kernel
theorem dX4_reduceBy_54 : decode cX4_reduceBy 54 = .ok (.iload 6, 2) := by decide +kernel
theorem dX4_reduceBy_56 : decode cX4_reduceBy 56 = .ok (.iaload, 1) := by decide +kernel
theorem dX4_reduceBy_57 : decode cX4_reduceBy 57 = .ok (.iload 4, 2) := by decide +kernel
theorem dX4_reduceBy_59 : decode cX4_reduceBy 59 = .ok (.aload_n 1, 1) := by decide +kernel
theorem dX4_reduceBy_60 : decode cX4_reduceBy 60 = .ok (.iload 5, 2) := by decide +kernel
theorem dX4_reduceBy_62 : decode cX4_reduceBy 62 = .ok (.iaload, 1) := by decide +kernel
theorem dX4_reduceBy_63 : decode cX4_reduceBy 63 = .ok (.invokestatic 21, 3) := by decide +kernel
theorem dX4_reduceBy_66 : decode cX4_reduceBy 66 = .ok (.iastore, 1) := by decide +kernel
theorem dX4_reduceBy_67 : decode cX4_reduceBy 67 = .ok (.iinc 5 1, 3) := by decide +kernel
theorem dX4_reduceBy_70 : decode cX4_reduceBy 70 = .ok (.goto (-34), 3) := by decide +kernel
theorem dX4_reduceBy_73 : decode cX4_reduceBy 73 = .ok (.iinc 3 (-1), 3) := by decide +kernel
theorem dX4_reduceBy_76 : decode cX4_reduceBy 76 = .ok (.goto (-61), 3) := by decide +kernel
theorem dX4_reduceBy_79 : decode cX4_reduceBy 79 = .ok (.return_, 1) := by decide +kernel
theorem dX5_init_0 : decode cX5_init 0 = .ok (.aload_n 0, 1) := by decide +kernel
theorem dX5_init_1 : decode cX5_init 1 = .ok (.invokespecial 3, 3) := by decide +kernel
theorem dX5_init_4 : decode cX5_init 4 = .ok (.aload_n 0, 1) := by decide +kernel
theorem dX5_init_5 : decode cX5_init 5 = .ok (.bipush 6, 2) := by decide +kernel
theorem dX5_init_7 : decode cX5_init 7 = .ok (.newarray .int, 2) := by decide +kernel
theorem dX5_init_9 : decode cX5_init 9 = .ok (.putfield 9, 3) := by decide +kernel
theorem dX5_init_12 : decode cX5_init 12 = .ok (.aload_n 0, 1) := by decide +kernel
theorem dX5_init_13 : decode cX5_init 13 = .ok (.bipush 7, 2) := by decide +kernel
theorem dX5_init_15 : decode cX5_init 15 = .ok (.newarray .int, 2) := by decide +kernel
theorem dX5_init_17 : decode cX5_init 17 = .ok (.putfield 15, 3) := by decide +kernel
theorem dX5_init_20 : decode cX5_init 20 = .ok (.aload_n 0, 1) := by decide +kernel
theorem dX5_init_21 : decode cX5_init 21 = .ok (.bipush 7, 2) := by decide +kernel
theorem dX5_init_23 : decode cX5_init 23 = .ok (.newarray .int, 2) := by decide +kernel
theorem dX5_init_25 : decode cX5_init 25 = .ok (.putfield 18, 3) := by decide +kernel
theorem dX5_init_28 : decode cX5_init 28 = .ok (.aload_n 0, 1) := by decide +kernel
theorem dX5_init_29 : decode cX5_init 29 = .ok (.bipush 7, 2) := by decide +kernel
theorem dX5_init_31 : decode cX5_init 31 = .ok (.newarray .int, 2) := by decide +kernel
theorem dX5_init_33 : decode cX5_init 33 = .ok (.putfield 21, 3) := by decide +kernel
theorem dX5_init_36 : decode cX5_init 36 = .ok (.aload_n 0, 1) := by decide +kernel
theorem dX5_init_37 : decode cX5_init 37 = .ok (.bipush 7, 2) := by decide +kernel
theorem dX5_init_39 : decode cX5_init 39 = .ok (.newarray .int, 2) := by decide +kernel
theorem dX5_init_41 : decode cX5_init 41 = .ok (.putfield 24, 3) := by decide +kernel
theorem dX5_init_44 : decode cX5_init 44 = .ok (.aload_n 0, 1) := by decide +kernel
theorem dX5_init_45 : decode cX5_init 45 = .ok (.bipush 13, 2) := by decide +kernel
theorem dX5_init_47 : decode cX5_init 47 = .ok (.newarray .int, 2) := by decide +kernel
theorem dX5_init_49 : decode cX5_init 49 = .ok (.putfield 27, 3) := by decide +kernel
theorem dX5_init_52 : decode cX5_init 52 = .ok (.return_, 1) := by decide +kernel
theorem dX5_at_0 : decode cX5_at 0 = .ok (.iload_n 1, 1) := by decide +kernel
theorem dX5_at_1 : decode cX5_at 1 = .ok (.ifCond .lt 29, 3) := by decide +kernel
theorem dX5_at_4 : decode cX5_at 4 = .ok (.iload_n 1, 1) := by decide +kernel
theorem dX5_at_5 : decode cX5_at 5 = .ok (.aload_n 0, 1) := by decide +kernel
theorem dX5_at_6 : decode cX5_at 6 = .ok (.getfield 30, 3) := by decide +kernel
theorem dX5_at_9 : decode cX5_at 9 = .ok (.if_icmp .ge 21, 3) := by decide +kernel
theorem dX5_at_12 : decode cX5_at 12 = .ok (.iload_n 1, 1) := by decide +kernel
theorem dX5_at_13 : decode cX5_at 13 = .ok (.aload_n 0, 1) := by decide +kernel
theorem dX5_at_14 : decode cX5_at 14 = .ok (.getfield 9, 3) := by decide +kernel
theorem dX5_at_17 : decode cX5_at 17 = .ok (.arraylength, 1) := by decide +kernel
theorem dX5_at_18 : decode cX5_at 18 = .ok (.if_icmp .ge 12, 3) := by decide +kernel
theorem dX5_at_21 : decode cX5_at 21 = .ok (.aload_n 0, 1) := by decide +kernel
theorem dX5_at_22 : decode cX5_at 22 = .ok (.getfield 9, 3) := by decide +kernel
theorem dX5_at_25 : decode cX5_at 25 = .ok (.iload_n 1, 1) := by decide +kernel
theorem dX5_at_26 : decode cX5_at 26 = .ok (.iaload, 1) := by decide +kernel
theorem dX5_at_27 : decode cX5_at 27 = .ok (.goto 4, 3) := by decide +kernel
theorem dX5_at_30 : decode cX5_at 30 = .ok (.iconst (-1), 1) := by decide +kernel
theorem dX5_at_31 : decode cX5_at 31 = .ok (.ireturn, 1) := by decide +kernel
theorem dX5_find_0 : decode cX5_find 0 = .ok (.aload_n 0, 1) := by decide +kernel
theorem dX5_find_1 : decode cX5_find 1 = .ok (.iconst 0, 1) := by decide +kernel
theorem dX5_find_2 : decode cX5_find 2 = .ok (.putfield 30, 3) := by decide +kernel
theorem dX5_find_5 : decode cX5_find 5 = .ok (.iconst 0, 1) := by decide +kernel
theorem dX5_find_6 : decode cX5_find 6 = .ok (.istore_n 2, 1) := by decide +kernel
theorem dX5_find_7 : decode cX5_find 7 = .ok (.iload_n 2, 1) := by decide +kernel
theorem dX5_find_8 : decode cX5_find 8 = .ok (.bipush 7, 2) := by decide +kernel
theorem dX5_find_10 : decode cX5_find 10 = .ok (.if_icmp .ge 28, 3) := by decide +kernel
theorem dX5_find_13 : decode cX5_find 13 = .ok (.aload_n 0, 1) := by decide +kernel
theorem dX5_find_14 : decode cX5_find 14 = .ok (.getfield 15, 3) := by decide +kernel
theorem dX5_find_17 : decode cX5_find 17 = .ok (.iload_n 2, 1) := by decide +kernel
theorem dX5_find_18 : decode cX5_find 18 = .ok (.iload_n 2, 1) := by decide +kernel
theorem dX5_find_19 : decode cX5_find 19 = .ok (.aload_n 1, 1) := by decide +kernel
theorem dX5_find_20 : decode cX5_find 20 = .ok (.arraylength, 1) := by decide +kernel
theorem dX5_find_21 : decode cX5_find 21 = .ok (.if_icmp .ge 9, 3) := by decide +kernel
theorem dX5_find_24 : decode cX5_find 24 = .ok (.aload_n 1, 1) := by decide +kernel
theorem dX5_find_25 : decode cX5_find 25 = .ok (.iload_n 2, 1) := by decide +kernel
theorem dX5_find_26 : decode cX5_find 26 = .ok (.iaload, 1) := by decide +kernel
theorem dX5_find_27 : decode cX5_find 27 = .ok (.goto 4, 3) := by decide +kernel
theorem dX5_find_30 : decode cX5_find 30 = .ok (.iconst 0, 1) := by decide +kernel
theorem dX5_find_31 : decode cX5_find 31 = .ok (.iastore, 1) := by decide +kernel
theorem dX5_find_32 : decode cX5_find 32 = .ok (.iinc 2 1, 3) := by decide +kernel
theorem dX5_find_35 : decode cX5_find 35 = .ok (.goto (-28), 3) := by decide +kernel
theorem dX5_find_38 : decode cX5_find 38 = .ok (.aload_n 0, 1) := by decide +kernel
theorem dX5_find_39 : decode cX5_find 39 = .ok (.getfield 15, 3) := by decide +kernel
theorem dX5_find_42 : decode cX5_find 42 = .ok (.invokestatic 34, 3) := by decide +kernel
theorem dX5_find_45 : decode cX5_find 45 = .ok (.aload_n 0, 1) := by decide +kernel
theorem dX5_find_46 : decode cX5_find 46 = .ok (.invokevirtual 40, 3) := by decide +kernel
theorem dX5_find_49 : decode cX5_find 49 = .ok (.aload_n 0, 1) := by decide +kernel
theorem dX5_find_50 : decode cX5_find 50 = .ok (.getfield 15, 3) := by decide +kernel
theorem dX5_find_53 : decode cX5_find 53 = .ok (.invokestatic 43, 3) := by decide +kernel
theorem dX5_find_56 : decode cX5_find 56 = .ok (.istore_n 2, 1) := by decide +kernel
theorem dX5_find_57 : decode cX5_find 57 = .ok (.iload_n 2, 1) := by decide +kernel
theorem dX5_find_58 : decode cX5_find 58 = .ok (.ifCond .le 24, 3) := by decide +kernel
theorem dX5_find_61 : decode cX5_find 61 = .ok (.aload_n 0, 1) := by decide +kernel
theorem dX5_find_62 : decode cX5_find 62 = .ok (.invokevirtual 47, 3) := by decide +kernel
theorem dX5_find_65 : decode cX5_find 65 = .ok (.istore_n 3, 1) := by decide +kernel
theorem dX5_find_66 : decode cX5_find 66 = .ok (.aload_n 0, 1) := by decide +kernel
theorem dX5_find_67 : decode cX5_find 67 = .ok (.iload_n 3, 1) := by decide +kernel
theorem dX5_find_68 : decode cX5_find 68 = .ok (.invokevirtual 51, 3) := by decide +kernel
theorem dX5_find_71 : decode cX5_find 71 = .ok (.aload_n 0, 1) := by decide +kernel
theorem dX5_find_72 : decode cX5_find 72 = .ok (.iload_n 3, 1) := by decide +kernel
theorem dX5_find_73 : decode cX5_find 73 = .ok (.invokevirtual 55, 3) := by decide +kernel
theorem dX5_find_76 : decode cX5_find 76 = .ok (.iinc 2 (-1), 3) := by decide +kernel
theorem dX5_find_79 : decode cX5_find 79 = .ok (.goto (-22), 3) := by decide +kernel
theorem dX5_find_82 : decode cX5_find 82 = .ok (.return_, 1) := by decide +kernel
theorem dX5_keepSimpleRoots_0 : decode cX5_keepSimpleRoots 0 = .ok (.aload_n 0, 1) := by decide +kernel
theorem dX5_keepSimpleRoots_1 : decode cX5_keepSimpleRoots 1 = .ok (.getfield 15, 3) := by decide +kernel
theorem dX5_keepSimpleRoots_4 : decode cX5_keepSimpleRoots 4 = .ok (.invokestatic 43, 3) := by decide +kernel
theorem dX5_keepSimpleRoots_7 : decode cX5_keepSimpleRoots 7 = .ok (.ifCond .gt 4, 3) := by decide +kernel
theorem dX5_keepSimpleRoots_10 : decode cX5_keepSimpleRoots 10 = .ok (.return_, 1) := by decide +kernel
theorem dX5_keepSimpleRoots_11 : decode cX5_keepSimpleRoots 11 = .ok (.aload_n 0, 1) := by decide +kernel
theorem dX5_keepSimpleRoots_12 : decode cX5_keepSimpleRoots 12 = .ok (.iconst 0, 1) := by decide +kernel
theorem dX5_keepSimpleRoots_13 : decode cX5_keepSimpleRoots 13 = .ok (.sipush 32003, 3) := by decide +kernel
theorem dX5_keepSimpleRoots_16 : decode cX5_keepSimpleRoots 16 = .ok (.aload_n 0, 1) := by decide +kernel
theorem dX5_keepSimpleRoots_17 : decode cX5_keepSimpleRoots 17 = .ok (.getfield 15, 3) := by decide +kernel
theorem dX5_keepSimpleRoots_20 : decode cX5_keepSimpleRoots 20 = .ok (.invokevirtual 58, 3) := by decide +kernel
theorem dX5_keepSimpleRoots_23 : decode cX5_keepSimpleRoots 23 = .ok (.aload_n 0, 1) := by decide +kernel
theorem dX5_keepSimpleRoots_24 : decode cX5_keepSimpleRoots 24 = .ok (.getfield 24, 3) := by decide +kernel
theorem dX5_keepSimpleRoots_27 : decode cX5_keepSimpleRoots 27 = .ok (.iconst 1, 1) := by decide +kernel
theorem dX5_keepSimpleRoots_28 : decode cX5_keepSimpleRoots 28 = .ok (.aload_n 0, 1) := by decide +kernel
theorem dX5_keepSimpleRoots_29 : decode cX5_keepSimpleRoots 29 = .ok (.getfield 24, 3) := by decide +kernel
theorem dX5_keepSimpleRoots_32 : decode cX5_keepSimpleRoots 32 = .ok (.iconst 1, 1) := by decide +kernel
theorem dX5_keepSimpleRoots_33 : decode cX5_keepSimpleRoots 33 = .ok (.iaload, 1) := by decide +kernel
theorem dX5_keepSimpleRoots_34 : decode cX5_keepSimpleRoots 34 = .ok (.iconst 1, 1) := by decide +kernel
theorem dX5_keepSimpleRoots_35 : decode cX5_keepSimpleRoots 35 = .ok (.iconst 1, 1) := by decide +kernel
theorem dX5_keepSimpleRoots_36 : decode cX5_keepSimpleRoots 36 = .ok (.invokestatic 62, 3) := by decide +kernel
theorem dX5_keepSimpleRoots_39 : decode cX5_keepSimpleRoots 39 = .ok (.iastore, 1) := by decide +kernel
theorem dX5_keepSimpleRoots_40 : decode cX5_keepSimpleRoots 40 = .ok (.aload_n 0, 1) := by decide +kernel
theorem dX5_keepSimpleRoots_41 : decode cX5_keepSimpleRoots 41 = .ok (.getfield 15, 3) := by decide +kernel
theorem dX5_keepSimpleRoots_44 : decode cX5_keepSimpleRoots 44 = .ok (.aload_n 0, 1) := by decide +kernel
theorem dX5_keepSimpleRoots_45 : decode cX5_keepSimpleRoots 45 = .ok (.getfield 24, 3) := by decide +kernel
theorem dX5_keepSimpleRoots_48 : decode cX5_keepSimpleRoots 48 = .ok (.invokestatic 68, 3) := by decide +kernel
theorem dX5_keepSimpleRoots_51 : decode cX5_keepSimpleRoots 51 = .ok (.return_, 1) := by decide +kernel
theorem dX5_splitOffRoot_0 : decode cX5_splitOffRoot 0 = .ok (.aload_n 0, 1) := by decide +kernel
theorem dX5_splitOffRoot_1 : decode cX5_splitOffRoot 1 = .ok (.getfield 15, 3) := by decide +kernel
theorem dX5_splitOffRoot_4 : decode cX5_splitOffRoot 4 = .ok (.iconst 0, 1) := by decide +kernel
theorem dX5_splitOffRoot_5 : decode cX5_splitOffRoot 5 = .ok (.aload_n 0, 1) := by decide +kernel
theorem dX5_splitOffRoot_6 : decode cX5_splitOffRoot 6 = .ok (.getfield 18, 3) := by decide +kernel
theorem dX5_splitOffRoot_9 : decode cX5_splitOffRoot 9 = .ok (.iconst 0, 1) := by decide +kernel
theorem dX5_splitOffRoot_10 : decode cX5_splitOffRoot 10 = .ok (.bipush 7, 2) := by decide +kernel
theorem dX5_splitOffRoot_12 : decode cX5_splitOffRoot 12 = .ok (.invokestatic 72, 3) := by decide +kernel
theorem dX5_splitOffRoot_15 : decode cX5_splitOffRoot 15 = .ok (.iconst 0, 1) := by decide +kernel
theorem dX5_splitOffRoot_16 : decode cX5_splitOffRoot 16 = .ok (.istore_n 1, 1) := by decide +kernel
theorem dX5_splitOffRoot_17 : decode cX5_splitOffRoot 17 = .ok (.iload_n 1, 1) := by decide +kernel
theorem dX5_splitOffRoot_18 : decode cX5_splitOffRoot 18 = .ok (.sipush 32003, 3) := by decide +kernel
theorem dX5_splitOffRoot_21 : decode cX5_splitOffRoot 21 = .ok (.if_icmp .ge 113, 3) := by decide +kernel
theorem dX5_splitOffRoot_24 : decode cX5_splitOffRoot 24 = .ok (.aload_n 0, 1) := by decide +kernel
theorem dX5_splitOffRoot_25 : decode cX5_splitOffRoot 25 = .ok (.getfield 18, 3) := by decide +kernel
theorem dX5_splitOffRoot_28 : decode cX5_splitOffRoot 28 = .ok (.invokestatic 43, 3) := by decide +kernel
theorem dX5_splitOffRoot_31 : decode cX5_splitOffRoot 31 = .ok (.iconst 1, 1) := by decide +kernel
theorem dX5_splitOffRoot_32 : decode cX5_splitOffRoot 32 = .ok (.if_icmp .le 102, 3) := by decide +kernel
theorem dX5_splitOffRoot_35 : decode cX5_splitOffRoot 35 = .ok (.aload_n 0, 1) := by decide +kernel
theorem dX5_splitOffRoot_36 : decode cX5_splitOffRoot 36 = .ok (.iload_n 1, 1) := by decide +kernel
theorem dX5_splitOffRoot_37 : decode cX5_splitOffRoot 37 = .ok (.sipush 16001, 3) := by decide +kernel
theorem dX5_splitOffRoot_40 : decode cX5_splitOffRoot 40 = .ok (.aload_n 0, 1) := by decide +kernel
theorem dX5_splitOffRoot_41 : decode cX5_splitOffRoot 41 = .ok (.getfield 18, 3) := by decide +kernel
theorem dX5_splitOffRoot_44 : decode cX5_splitOffRoot 44 = .ok (.invokevirtual 58, 3) := by decide +kernel
theorem dX5_splitOffRoot_47 : decode cX5_splitOffRoot 47 = .ok (.aload_n 0, 1) := by decide +kernel
theorem dX5_splitOffRoot_48 : decode cX5_splitOffRoot 48 = .ok (.getfield 24, 3) := by decide +kernel
theorem dX5_splitOffRoot_51 : decode cX5_splitOffRoot 51 = .ok (.iconst 0, 1) := by decide +kernel
theorem dX5_splitOffRoot_52 : decode cX5_splitOffRoot 52 = .ok (.aload_n 0, 1) := by decide +kernel
theorem dX5_splitOffRoot_53 : decode cX5_splitOffRoot 53 = .ok (.getfield 24, 3) := by decide +kernel
theorem dX5_splitOffRoot_56 : decode cX5_splitOffRoot 56 = .ok (.iconst 0, 1) := by decide +kernel
theorem dX5_splitOffRoot_57 : decode cX5_splitOffRoot 57 = .ok (.iaload, 1) := by decide +kernel
theorem dX5_splitOffRoot_58 : decode cX5_splitOffRoot 58 = .ok (.iconst 1, 1) := by decide +kernel
theorem dX5_splitOffRoot_59 : decode cX5_splitOffRoot 59 = .ok (.iconst 1, 1) := by decide +kernel
theorem dX5_splitOffRoot_60 : decode cX5_splitOffRoot 60 = .ok (.invokestatic 62, 3) := by decide +kernel
theorem dX5_splitOffRoot_63 : decode cX5_splitOffRoot 63 = .ok (.iastore, 1) := by decide +kernel
theorem dX5_splitOffRoot_64 : decode cX5_splitOffRoot 64 = .ok (.aload_n 0, 1) := by decide +kernel
theorem dX5_splitOffRoot_65 : decode cX5_splitOffRoot 65 = .ok (.getfield 18, 3) := by decide +kernel
theorem dX5_splitOffRoot_68 : decode cX5_splitOffRoot 68 = .ok (.iconst 0, 1) := by decide +kernel
theorem dX5_splitOffRoot_69 : decode cX5_splitOffRoot 69 = .ok (.aload_n 0, 1) := by decide +kernel
theorem dX5_splitOffRoot_70 : decode cX5_splitOffRoot 70 = .ok (.getfield 21, 3) := by decide +kernel
theorem dX5_splitOffRoot_73 : decode cX5_splitOffRoot 73 = .ok (.iconst 0, 1) := by decide +kernel
theorem dX5_splitOffRoot_74 : decode cX5_splitOffRoot 74 = .ok (.bipush 7, 2) := by decide +kernel
theorem dX5_splitOffRoot_76 : decode cX5_splitOffRoot 76 = .ok (.invokestatic 72, 3) := by decide +kernel
theorem dX5_splitOffRoot_79 : decode cX5_splitOffRoot 79 = .ok (.aload_n 0, 1) := by decide +kernel
theorem dX5_splitOffRoot_80 : decode cX5_splitOffRoot 80 = .ok (.getfield 21, 3) := by decide +kernel
theorem dX5_splitOffRoot_83 : decode cX5_splitOffRoot 83 = .ok (.aload_n 0, 1) := by decide +kernel
theorem dX5_splitOffRoot_84 : decode cX5_splitOffRoot 84 = .ok (.getfield 24, 3) := by decide +kernel
theorem dX5_splitOffRoot_87 : decode cX5_splitOffRoot 87 = .ok (.invokestatic 68, 3) := by decide +kernel
end
section
theorem dX5_splitOffRoot_90 : decode cX5_splitOffRoot 90 = .ok (.aload_n 0, 1) := by decide +kernel
theorem dX5_splitOffRoot_91 : decode cX5_splitOffRoot 91 = .ok (.getfield 21, 3) := by decide +kernel
theorem dX5_splitOffRoot_94 : decode cX5_splitOffRoot 94 = .ok (.invokestatic 43, 3) := by decide +kernel
theorem dX5_splitOffRoot_97 : decode cX5_splitOffRoot 97 = .ok (.istore_n 2, 1) := by decide +kernel
theorem dX5_splitOffRoot_98 : decode cX5_splitOffRoot 98 = .ok (.iload_n 2, 1) := by decide +kernel
theorem dX5_splitOffRoot_99 : decode cX5_splitOffRoot 99 = .ok (.ifCond .le 29, 3) := by decide +kernel
theorem dX5_splitOffRoot_102 : decode cX5_splitOffRoot 102 = .ok (.iload_n 2, 1) := by decide +kernel
theorem dX5_splitOffRoot_103 : decode cX5_splitOffRoot 103 = .ok (.aload_n 0, 1) := by decide +kernel
theorem dX5_splitOffRoot_104 : decode cX5_splitOffRoot 104 = .ok (.getfield 18, 3) := by decide +kernel
theorem dX5_splitOffRoot_107 : decode cX5_splitOffRoot 107 = .ok (.invokestatic 43, 3) := by decide +kernel
theorem dX5_splitOffRoot_110 : decode cX5_splitOffRoot 110 = .ok (.if_icmp .ge 18, 3) := by decide +kernel
theorem dX5_splitOffRoot_113 : decode cX5_splitOffRoot 113 = .ok (.aload_n 0, 1) := by decide +kernel
theorem dX5_splitOffRoot_114 : decode cX5_splitOffRoot 114 = .ok (.getfield 21, 3) := by decide +kernel
theorem dX5_splitOffRoot_117 : decode cX5_splitOffRoot 117 = .ok (.iconst 0, 1) := by decide +kernel
theorem dX5_splitOffRoot_118 : decode cX5_splitOffRoot 118 = .ok (.aload_n 0, 1) := by decide +kernel
theorem dX5_splitOffRoot_119 : decode cX5_splitOffRoot 119 = .ok (.getfield 18, 3) := by decide +kernel
theorem dX5_splitOffRoot_122 : decode cX5_splitOffRoot 122 = .ok (.iconst 0, 1) := by decide +kernel
theorem dX5_splitOffRoot_123 : decode cX5_splitOffRoot 123 = .ok (.bipush 7, 2) := by decide +kernel
theorem dX5_splitOffRoot_125 : decode cX5_splitOffRoot 125 = .ok (.invokestatic 72, 3) := by decide +kernel
theorem dX5_splitOffRoot_128 : decode cX5_splitOffRoot 128 = .ok (.iinc 1 1, 3) := by decide +kernel
theorem dX5_splitOffRoot_131 : decode cX5_splitOffRoot 131 = .ok (.goto (-114), 3) := by decide +kernel
theorem dX5_splitOffRoot_134 : decode cX5_splitOffRoot 134 = .ok (.aload_n 0, 1) := by decide +kernel
theorem dX5_splitOffRoot_135 : decode cX5_splitOffRoot 135 = .ok (.getfield 18, 3) := by decide +kernel
theorem dX5_splitOffRoot_138 : decode cX5_splitOffRoot 138 = .ok (.iconst 0, 1) := by decide +kernel
theorem dX5_splitOffRoot_139 : decode cX5_splitOffRoot 139 = .ok (.iaload, 1) := by decide +kernel
theorem dX5_splitOffRoot_140 : decode cX5_splitOffRoot 140 = .ok (.invokestatic 78, 3) := by decide +kernel
theorem dX5_splitOffRoot_143 : decode cX5_splitOffRoot 143 = .ok (.ireturn, 1) := by decide +kernel
theorem dX5_raiseLinear_0 : decode cX5_raiseLinear 0 = .ok (.iconst 0, 1) := by decide +kernel
theorem dX5_raiseLinear_1 : decode cX5_raiseLinear 1 = .ok (.istore 4, 2) := by decide +kernel
theorem dX5_raiseLinear_3 : decode cX5_raiseLinear 3 = .ok (.iload 4, 2) := by decide +kernel
theorem dX5_raiseLinear_5 : decode cX5_raiseLinear 5 = .ok (.bipush 7, 2) := by decide +kernel
theorem dX5_raiseLinear_7 : decode cX5_raiseLinear 7 = .ok (.if_icmp .ge 26, 3) := by decide +kernel
theorem dX5_raiseLinear_10 : decode cX5_raiseLinear 10 = .ok (.aload_n 0, 1) := by decide +kernel
theorem dX5_raiseLinear_11 : decode cX5_raiseLinear 11 = .ok (.getfield 24, 3) := by decide +kernel
theorem dX5_raiseLinear_14 : decode cX5_raiseLinear 14 = .ok (.iload 4, 2) := by decide +kernel
theorem dX5_raiseLinear_16 : decode cX5_raiseLinear 16 = .ok (.iload 4, 2) := by decide +kernel
theorem dX5_raiseLinear_18 : decode cX5_raiseLinear 18 = .ok (.ifCond .ne 7, 3) := by decide +kernel
theorem dX5_raiseLinear_21 : decode cX5_raiseLinear 21 = .ok (.iconst 1, 1) := by decide +kernel
theorem dX5_raiseLinear_22 : decode cX5_raiseLinear 22 = .ok (.goto 4, 3) := by decide +kernel
theorem dX5_raiseLinear_25 : decode cX5_raiseLinear 25 = .ok (.iconst 0, 1) := by decide +kernel
theorem dX5_raiseLinear_26 : decode cX5_raiseLinear 26 = .ok (.iastore, 1) := by decide +kernel
theorem dX5_raiseLinear_27 : decode cX5_raiseLinear 27 = .ok (.iinc 4 1, 3) := by decide +kernel
theorem dX5_raiseLinear_30 : decode cX5_raiseLinear 30 = .ok (.goto (-27), 3) := by decide +kernel
theorem dX5_raiseLinear_33 : decode cX5_raiseLinear 33 = .ok (.bipush 14, 2) := by decide +kernel
theorem dX5_raiseLinear_35 : decode cX5_raiseLinear 35 = .ok (.istore 4, 2) := by decide +kernel
theorem dX5_raiseLinear_37 : decode cX5_raiseLinear 37 = .ok (.iload 4, 2) := by decide +kernel
theorem dX5_raiseLinear_39 : decode cX5_raiseLinear 39 = .ok (.ifCond .lt 40, 3) := by decide +kernel
theorem dX5_raiseLinear_42 : decode cX5_raiseLinear 42 = .ok (.aload_n 0, 1) := by decide +kernel
theorem dX5_raiseLinear_43 : decode cX5_raiseLinear 43 = .ok (.aload_n 3, 1) := by decide +kernel
theorem dX5_raiseLinear_44 : decode cX5_raiseLinear 44 = .ok (.invokevirtual 82, 3) := by decide +kernel
theorem dX5_raiseLinear_47 : decode cX5_raiseLinear 47 = .ok (.iload_n 2, 1) := by decide +kernel
theorem dX5_raiseLinear_48 : decode cX5_raiseLinear 48 = .ok (.iload 4, 2) := by decide +kernel
theorem dX5_raiseLinear_50 : decode cX5_raiseLinear 50 = .ok (.ishr, 1) := by decide +kernel
theorem dX5_raiseLinear_51 : decode cX5_raiseLinear 51 = .ok (.iconst 1, 1) := by decide +kernel
theorem dX5_raiseLinear_52 : decode cX5_raiseLinear 52 = .ok (.iand, 1) := by decide +kernel
theorem dX5_raiseLinear_53 : decode cX5_raiseLinear 53 = .ok (.iconst 1, 1) := by decide +kernel
theorem dX5_raiseLinear_54 : decode cX5_raiseLinear 54 = .ok (.if_icmp .ne 19, 3) := by decide +kernel
theorem dX5_raiseLinear_57 : decode cX5_raiseLinear 57 = .ok (.aload_n 0, 1) := by decide +kernel
theorem dX5_raiseLinear_58 : decode cX5_raiseLinear 58 = .ok (.getfield 24, 3) := by decide +kernel
theorem dX5_raiseLinear_61 : decode cX5_raiseLinear 61 = .ok (.iload_n 1, 1) := by decide +kernel
theorem dX5_raiseLinear_62 : decode cX5_raiseLinear 62 = .ok (.invokestatic 85, 3) := by decide +kernel
theorem dX5_raiseLinear_65 : decode cX5_raiseLinear 65 = .ok (.aload_n 0, 1) := by decide +kernel
theorem dX5_raiseLinear_66 : decode cX5_raiseLinear 66 = .ok (.getfield 24, 3) := by decide +kernel
theorem dX5_raiseLinear_69 : decode cX5_raiseLinear 69 = .ok (.aload_n 3, 1) := by decide +kernel
theorem dX5_raiseLinear_70 : decode cX5_raiseLinear 70 = .ok (.invokestatic 89, 3) := by decide +kernel
theorem dX5_raiseLinear_73 : decode cX5_raiseLinear 73 = .ok (.iinc 4 (-1), 3) := by decide +kernel
theorem dX5_raiseLinear_76 : decode cX5_raiseLinear 76 = .ok (.goto (-39), 3) := by decide +kernel
theorem dX5_raiseLinear_79 : decode cX5_raiseLinear 79 = .ok (.return_, 1) := by decide +kernel
theorem dX5_squarePower_0 : decode cX5_squarePower 0 = .ok (.iconst 0, 1) := by decide +kernel
theorem dX5_squarePower_1 : decode cX5_squarePower 1 = .ok (.istore_n 2, 1) := by decide +kernel
theorem dX5_squarePower_2 : decode cX5_squarePower 2 = .ok (.iload_n 2, 1) := by decide +kernel
theorem dX5_squarePower_3 : decode cX5_squarePower 3 = .ok (.aload_n 0, 1) := by decide +kernel
theorem dX5_squarePower_4 : decode cX5_squarePower 4 = .ok (.getfield 27, 3) := by decide +kernel
theorem dX5_squarePower_7 : decode cX5_squarePower 7 = .ok (.arraylength, 1) := by decide +kernel
theorem dX5_squarePower_8 : decode cX5_squarePower 8 = .ok (.if_icmp .ge 16, 3) := by decide +kernel
theorem dX5_squarePower_11 : decode cX5_squarePower 11 = .ok (.aload_n 0, 1) := by decide +kernel
theorem dX5_squarePower_12 : decode cX5_squarePower 12 = .ok (.getfield 27, 3) := by decide +kernel
theorem dX5_squarePower_15 : decode cX5_squarePower 15 = .ok (.iload_n 2, 1) := by decide +kernel
theorem dX5_squarePower_16 : decode cX5_squarePower 16 = .ok (.iconst 0, 1) := by decide +kernel
theorem dX5_squarePower_17 : decode cX5_squarePower 17 = .ok (.iastore, 1) := by decide +kernel
theorem dX5_squarePower_18 : decode cX5_squarePower 18 = .ok (.iinc 2 1, 3) := by decide +kernel
theorem dX5_squarePower_21 : decode cX5_squarePower 21 = .ok (.goto (-19), 3) := by decide +kernel
theorem dX5_squarePower_24 : decode cX5_squarePower 24 = .ok (.aload_n 0, 1) := by decide +kernel
theorem dX5_squarePower_25 : decode cX5_squarePower 25 = .ok (.getfield 24, 3) := by decide +kernel
theorem dX5_squarePower_28 : decode cX5_squarePower 28 = .ok (.invokestatic 43, 3) := by decide +kernel
theorem dX5_squarePower_31 : decode cX5_squarePower 31 = .ok (.istore_n 2, 1) := by decide +kernel
theorem dX5_squarePower_32 : decode cX5_squarePower 32 = .ok (.iconst 0, 1) := by decide +kernel
theorem dX5_squarePower_33 : decode cX5_squarePower 33 = .ok (.istore_n 3, 1) := by decide +kernel
theorem dX5_squarePower_34 : decode cX5_squarePower 34 = .ok (.iload_n 3, 1) := by decide +kernel
theorem dX5_squarePower_35 : decode cX5_squarePower 35 = .ok (.iload_n 2, 1) := by decide +kernel
theorem dX5_squarePower_36 : decode cX5_squarePower 36 = .ok (.if_icmp .gt 61, 3) := by decide +kernel
theorem dX5_squarePower_39 : decode cX5_squarePower 39 = .ok (.iconst 0, 1) := by decide +kernel
theorem dX5_squarePower_40 : decode cX5_squarePower 40 = .ok (.istore 4, 2) := by decide +kernel
theorem dX5_squarePower_42 : decode cX5_squarePower 42 = .ok (.iload 4, 2) := by decide +kernel
theorem dX5_squarePower_44 : decode cX5_squarePower 44 = .ok (.iload_n 2, 1) := by decide +kernel
theorem dX5_squarePower_45 : decode cX5_squarePower 45 = .ok (.if_icmp .gt 46, 3) := by decide +kernel
theorem dX5_squarePower_48 : decode cX5_squarePower 48 = .ok (.aload_n 0, 1) := by decide +kernel
theorem dX5_squarePower_49 : decode cX5_squarePower 49 = .ok (.getfield 27, 3) := by decide +kernel
theorem dX5_squarePower_52 : decode cX5_squarePower 52 = .ok (.iload_n 3, 1) := by decide +kernel
theorem dX5_squarePower_53 : decode cX5_squarePower 53 = .ok (.iload 4, 2) := by decide +kernel
theorem dX5_squarePower_55 : decode cX5_squarePower 55 = .ok (.iadd, 1) := by decide +kernel
theorem dX5_squarePower_56 : decode cX5_squarePower 56 = .ok (.aload_n 0, 1) := by decide +kernel
theorem dX5_squarePower_57 : decode cX5_squarePower 57 = .ok (.getfield 27, 3) := by decide +kernel
theorem dX5_squarePower_60 : decode cX5_squarePower 60 = .ok (.iload_n 3, 1) := by decide +kernel
theorem dX5_squarePower_61 : decode cX5_squarePower 61 = .ok (.iload 4, 2) := by decide +kernel
theorem dX5_squarePower_63 : decode cX5_squarePower 63 = .ok (.iadd, 1) := by decide +kernel
theorem dX5_squarePower_64 : decode cX5_squarePower 64 = .ok (.iaload, 1) := by decide +kernel
theorem dX5_squarePower_65 : decode cX5_squarePower 65 = .ok (.aload_n 0, 1) := by decide +kernel
theorem dX5_squarePower_66 : decode cX5_squarePower 66 = .ok (.getfield 24, 3) := by decide +kernel
theorem dX5_squarePower_69 : decode cX5_squarePower 69 = .ok (.iload_n 3, 1) := by decide +kernel
theorem dX5_squarePower_70 : decode cX5_squarePower 70 = .ok (.iaload, 1) := by decide +kernel
theorem dX5_squarePower_71 : decode cX5_squarePower 71 = .ok (.aload_n 0, 1) := by decide +kernel
theorem dX5_squarePower_72 : decode cX5_squarePower 72 = .ok (.getfield 24, 3) := by decide +kernel
theorem dX5_squarePower_75 : decode cX5_squarePower 75 = .ok (.iload 4, 2) := by decide +kernel
theorem dX5_squarePower_77 : decode cX5_squarePower 77 = .ok (.iaload, 1) := by decide +kernel
theorem dX5_squarePower_78 : decode cX5_squarePower 78 = .ok (.imul, 1) := by decide +kernel
theorem dX5_squarePower_79 : decode cX5_squarePower 79 = .ok (.iadd, 1) := by decide +kernel
theorem dX5_squarePower_80 : decode cX5_squarePower 80 = .ok (.sipush 32003, 3) := by decide +kernel
theorem dX5_squarePower_83 : decode cX5_squarePower 83 = .ok (.irem, 1) := by decide +kernel
theorem dX5_squarePower_84 : decode cX5_squarePower 84 = .ok (.iastore, 1) := by decide +kernel
theorem dX5_squarePower_85 : decode cX5_squarePower 85 = .ok (.iinc 4 1, 3) := by decide +kernel
theorem dX5_squarePower_88 : decode cX5_squarePower 88 = .ok (.goto (-46), 3) := by decide +kernel
theorem dX5_squarePower_91 : decode cX5_squarePower 91 = .ok (.iinc 3 1, 3) := by decide +kernel
theorem dX5_squarePower_94 : decode cX5_squarePower 94 = .ok (.goto (-60), 3) := by decide +kernel
theorem dX5_squarePower_97 : decode cX5_squarePower 97 = .ok (.aload_n 0, 1) := by decide +kernel
theorem dX5_squarePower_98 : decode cX5_squarePower 98 = .ok (.getfield 27, 3) := by decide +kernel
theorem dX5_squarePower_101 : decode cX5_squarePower 101 = .ok (.aload_n 1, 1) := by decide +kernel
theorem dX5_squarePower_102 : decode cX5_squarePower 102 = .ok (.invokestatic 89, 3) := by decide +kernel
theorem dX5_squarePower_105 : decode cX5_squarePower 105 = .ok (.aload_n 0, 1) := by decide +kernel
theorem dX5_squarePower_106 : decode cX5_squarePower 106 = .ok (.getfield 27, 3) := by decide +kernel
theorem dX5_squarePower_109 : decode cX5_squarePower 109 = .ok (.iconst 0, 1) := by decide +kernel
theorem dX5_squarePower_110 : decode cX5_squarePower 110 = .ok (.aload_n 0, 1) := by decide +kernel
theorem dX5_squarePower_111 : decode cX5_squarePower 111 = .ok (.getfield 24, 3) := by decide +kernel
theorem dX5_squarePower_114 : decode cX5_squarePower 114 = .ok (.iconst 0, 1) := by decide +kernel
theorem dX5_squarePower_115 : decode cX5_squarePower 115 = .ok (.bipush 7, 2) := by decide +kernel
theorem dX5_squarePower_117 : decode cX5_squarePower 117 = .ok (.invokestatic 72, 3) := by decide +kernel
theorem dX5_squarePower_120 : decode cX5_squarePower 120 = .ok (.return_, 1) := by decide +kernel
theorem dX5_keepCommonDivisor_0 : decode cX5_keepCommonDivisor 0 = .ok (.aload_n 0, 1) := by decide +kernel
theorem dX5_keepCommonDivisor_1 : decode cX5_keepCommonDivisor 1 = .ok (.astore_n 2, 1) := by decide +kernel
theorem dX5_keepCommonDivisor_2 : decode cX5_keepCommonDivisor 2 = .ok (.aload_n 1, 1) := by decide +kernel
theorem dX5_keepCommonDivisor_3 : decode cX5_keepCommonDivisor 3 = .ok (.astore_n 3, 1) := by decide +kernel
theorem dX5_keepCommonDivisor_4 : decode cX5_keepCommonDivisor 4 = .ok (.iconst 0, 1) := by decide +kernel
theorem dX5_keepCommonDivisor_5 : decode cX5_keepCommonDivisor 5 = .ok (.istore 4, 2) := by decide +kernel
theorem dX5_keepCommonDivisor_7 : decode cX5_keepCommonDivisor 7 = .ok (.iload 4, 2) := by decide +kernel
theorem dX5_keepCommonDivisor_9 : decode cX5_keepCommonDivisor 9 = .ok (.bipush 7, 2) := by decide +kernel
theorem dX5_keepCommonDivisor_11 : decode cX5_keepCommonDivisor 11 = .ok (.if_icmp .gt 33, 3) := by decide +kernel
theorem dX5_keepCommonDivisor_14 : decode cX5_keepCommonDivisor 14 = .ok (.aload_n 3, 1) := by decide +kernel
theorem dX5_keepCommonDivisor_15 : decode cX5_keepCommonDivisor 15 = .ok (.invokestatic 43, 3) := by decide +kernel
theorem dX5_keepCommonDivisor_18 : decode cX5_keepCommonDivisor 18 = .ok (.ifCond .lt 26, 3) := by decide +kernel
theorem dX5_keepCommonDivisor_21 : decode cX5_keepCommonDivisor 21 = .ok (.aload_n 3, 1) := by decide +kernel
theorem dX5_keepCommonDivisor_22 : decode cX5_keepCommonDivisor 22 = .ok (.invokestatic 34, 3) := by decide +kernel
theorem dX5_keepCommonDivisor_25 : decode cX5_keepCommonDivisor 25 = .ok (.aload_n 2, 1) := by decide +kernel
theorem dX5_keepCommonDivisor_26 : decode cX5_keepCommonDivisor 26 = .ok (.aload_n 3, 1) := by decide +kernel
theorem dX5_keepCommonDivisor_27 : decode cX5_keepCommonDivisor 27 = .ok (.invokestatic 89, 3) := by decide +kernel
theorem dX5_keepCommonDivisor_30 : decode cX5_keepCommonDivisor 30 = .ok (.aload_n 2, 1) := by decide +kernel
theorem dX5_keepCommonDivisor_31 : decode cX5_keepCommonDivisor 31 = .ok (.astore 5, 2) := by decide +kernel
theorem dX5_keepCommonDivisor_33 : decode cX5_keepCommonDivisor 33 = .ok (.aload_n 3, 1) := by decide +kernel
theorem dX5_keepCommonDivisor_34 : decode cX5_keepCommonDivisor 34 = .ok (.astore_n 2, 1) := by decide +kernel
theorem dX5_keepCommonDivisor_35 : decode cX5_keepCommonDivisor 35 = .ok (.aload 5, 2) := by decide +kernel
theorem dX5_keepCommonDivisor_37 : decode cX5_keepCommonDivisor 37 = .ok (.astore_n 3, 1) := by decide +kernel
theorem dX5_keepCommonDivisor_38 : decode cX5_keepCommonDivisor 38 = .ok (.iinc 4 1, 3) := by decide +kernel
theorem dX5_keepCommonDivisor_41 : decode cX5_keepCommonDivisor 41 = .ok (.goto (-34), 3) := by decide +kernel
theorem dX5_keepCommonDivisor_44 : decode cX5_keepCommonDivisor 44 = .ok (.aload_n 2, 1) := by decide +kernel
theorem dX5_keepCommonDivisor_45 : decode cX5_keepCommonDivisor 45 = .ok (.iconst 0, 1) := by decide +kernel
theorem dX5_keepCommonDivisor_46 : decode cX5_keepCommonDivisor 46 = .ok (.aload_n 0, 1) := by decide +kernel
theorem dX5_keepCommonDivisor_47 : decode cX5_keepCommonDivisor 47 = .ok (.iconst 0, 1) := by decide +kernel
theorem dX5_keepCommonDivisor_48 : decode cX5_keepCommonDivisor 48 = .ok (.bipush 7, 2) := by decide +kernel
theorem dX5_keepCommonDivisor_50 : decode cX5_keepCommonDivisor 50 = .ok (.invokestatic 72, 3) := by decide +kernel
theorem dX5_keepCommonDivisor_53 : decode cX5_keepCommonDivisor 53 = .ok (.return_, 1) := by decide +kernel
theorem dX5_insert_0 : decode cX5_insert 0 = .ok (.aload_n 0, 1) := by decide +kernel
theorem dX5_insert_1 : decode cX5_insert 1 = .ok (.getfield 30, 3) := by decide +kernel
theorem dX5_insert_4 : decode cX5_insert 4 = .ok (.aload_n 0, 1) := by decide +kernel
theorem dX5_insert_5 : decode cX5_insert 5 = .ok (.getfield 9, 3) := by decide +kernel
theorem dX5_insert_8 : decode cX5_insert 8 = .ok (.arraylength, 1) := by decide +kernel
theorem dX5_insert_9 : decode cX5_insert 9 = .ok (.if_icmp .lt 4, 3) := by decide +kernel
theorem dX5_insert_12 : decode cX5_insert 12 = .ok (.return_, 1) := by decide +kernel
theorem dX5_insert_13 : decode cX5_insert 13 = .ok (.aload_n 0, 1) := by decide +kernel
theorem dX5_insert_14 : decode cX5_insert 14 = .ok (.getfield 30, 3) := by decide +kernel
theorem dX5_insert_17 : decode cX5_insert 17 = .ok (.istore_n 2, 1) := by decide +kernel
theorem dX5_insert_18 : decode cX5_insert 18 = .ok (.iload_n 2, 1) := by decide +kernel
theorem dX5_insert_19 : decode cX5_insert 19 = .ok (.ifCond .le 35, 3) := by decide +kernel
theorem dX5_insert_22 : decode cX5_insert 22 = .ok (.aload_n 0, 1) := by decide +kernel
theorem dX5_insert_23 : decode cX5_insert 23 = .ok (.getfield 9, 3) := by decide +kernel
theorem dX5_insert_26 : decode cX5_insert 26 = .ok (.iload_n 2, 1) := by decide +kernel
theorem dX5_insert_27 : decode cX5_insert 27 = .ok (.iconst 1, 1) := by decide +kernel
theorem dX5_insert_28 : decode cX5_insert 28 = .ok (.isub, 1) := by decide +kernel
theorem dX5_insert_29 : decode cX5_insert 29 = .ok (.iaload, 1) := by decide +kernel
theorem dX5_insert_30 : decode cX5_insert 30 = .ok (.iload_n 1, 1) := by decide +kernel
theorem dX5_insert_31 : decode cX5_insert 31 = .ok (.if_icmp .le 23, 3) := by decide +kernel
theorem dX5_insert_34 : decode cX5_insert 34 = .ok (.aload_n 0, 1) := by decide +kernel
theorem dX5_insert_35 : decode cX5_insert 35 = .ok (.getfield 9, 3) := by decide +kernel
theorem dX5_insert_38 : decode cX5_insert 38 = .ok (.iload_n 2, 1) := by decide +kernel
theorem dX5_insert_39 : decode cX5_insert 39 = .ok (.aload_n 0, 1) := by decide +kernel
theorem dX5_insert_40 : decode cX5_insert 40 = .ok (.getfield 9, 3) := by decide +kernel
theorem dX5_insert_43 : decode cX5_insert 43 = .ok (.iload_n 2, 1) := by decide +kernel
theorem dX5_insert_44 : decode cX5_insert 44 = .ok (.iconst 1, 1) := by decide +kernel
theorem dX5_insert_45 : decode cX5_insert 45 = .ok (.isub, 1) := by decide +kernel
theorem dX5_insert_46 : decode cX5_insert 46 = .ok (.iaload, 1) := by decide +kernel
theorem dX5_insert_47 : decode cX5_insert 47 = .ok (.iastore, 1) := by decide +kernel
theorem dX5_insert_48 : decode cX5_insert 48 = .ok (.iinc 2 (-1), 3) := by decide +kernel
theorem dX5_insert_51 : decode cX5_insert 51 = .ok (.goto (-33), 3) := by decide +kernel
theorem dX5_insert_54 : decode cX5_insert 54 = .ok (.aload_n 0, 1) := by decide +kernel
theorem dX5_insert_55 : decode cX5_insert 55 = .ok (.getfield 9, 3) := by decide +kernel
theorem dX5_insert_58 : decode cX5_insert 58 = .ok (.iload_n 2, 1) := by decide +kernel
theorem dX5_insert_59 : decode cX5_insert 59 = .ok (.iload_n 1, 1) := by decide +kernel
theorem dX5_insert_60 : decode cX5_insert 60 = .ok (.iastore, 1) := by decide +kernel
theorem dX5_insert_61 : decode cX5_insert 61 = .ok (.aload_n 0, 1) := by decide +kernel
theorem dX5_insert_62 : decode cX5_insert 62 = .ok (.dup, 1) := by decide +kernel
theorem dX5_insert_63 : decode cX5_insert 63 = .ok (.getfield 30, 3) := by decide +kernel
theorem dX5_insert_66 : decode cX5_insert 66 = .ok (.iconst 1, 1) := by decide +kernel
theorem dX5_insert_67 : decode cX5_insert 67 = .ok (.iadd, 1) := by decide +kernel
theorem dX5_insert_68 : decode cX5_insert 68 = .ok (.putfield 30, 3) := by decide +kernel
theorem dX5_insert_71 : decode cX5_insert 71 = .ok (.return_, 1) := by decide +kernel
theorem dX5_divideOut_0 : decode cX5_divideOut 0 = .ok (.iconst 0, 1) := by decide +kernel
theorem dX5_divideOut_1 : decode cX5_divideOut 1 = .ok (.istore_n 2, 1) := by decide +kernel
theorem dX5_divideOut_2 : decode cX5_divideOut 2 = .ok (.bipush 6, 2) := by decide +kernel
theorem dX5_divideOut_4 : decode cX5_divideOut 4 = .ok (.istore_n 3, 1) := by decide +kernel
theorem dX5_divideOut_5 : decode cX5_divideOut 5 = .ok (.iload_n 3, 1) := by decide +kernel
theorem dX5_divideOut_6 : decode cX5_divideOut 6 = .ok (.ifCond .lt 35, 3) := by decide +kernel
theorem dX5_divideOut_9 : decode cX5_divideOut 9 = .ok (.aload_n 0, 1) := by decide +kernel
theorem dX5_divideOut_10 : decode cX5_divideOut 10 = .ok (.getfield 15, 3) := by decide +kernel
theorem dX5_divideOut_13 : decode cX5_divideOut 13 = .ok (.iload_n 3, 1) := by decide +kernel
theorem dX5_divideOut_14 : decode cX5_divideOut 14 = .ok (.iaload, 1) := by decide +kernel
theorem dX5_divideOut_15 : decode cX5_divideOut 15 = .ok (.iload_n 2, 1) := by decide +kernel
theorem dX5_divideOut_16 : decode cX5_divideOut 16 = .ok (.iload_n 1, 1) := by decide +kernel
theorem dX5_divideOut_17 : decode cX5_divideOut 17 = .ok (.imul, 1) := by decide +kernel
theorem dX5_divideOut_18 : decode cX5_divideOut 18 = .ok (.iadd, 1) := by decide +kernel
theorem dX5_divideOut_19 : decode cX5_divideOut 19 = .ok (.sipush 32003, 3) := by decide +kernel
theorem dX5_divideOut_22 : decode cX5_divideOut 22 = .ok (.irem, 1) := by decide +kernel
theorem dX5_divideOut_23 : decode cX5_divideOut 23 = .ok (.istore 4, 2) := by decide +kernel
theorem dX5_divideOut_25 : decode cX5_divideOut 25 = .ok (.aload_n 0, 1) := by decide +kernel
theorem dX5_divideOut_26 : decode cX5_divideOut 26 = .ok (.getfield 15, 3) := by decide +kernel
theorem dX5_divideOut_29 : decode cX5_divideOut 29 = .ok (.iload_n 3, 1) := by decide +kernel
theorem dX5_divideOut_30 : decode cX5_divideOut 30 = .ok (.iload_n 2, 1) := by decide +kernel
theorem dX5_divideOut_31 : decode cX5_divideOut 31 = .ok (.iastore, 1) := by decide +kernel
theorem dX5_divideOut_32 : decode cX5_divideOut 32 = .ok (.iload 4, 2) := by decide +kernel
theorem dX5_divideOut_34 : decode cX5_divideOut 34 = .ok (.istore_n 2, 1) := by decide +kernel
theorem dX5_divideOut_35 : decode cX5_divideOut 35 = .ok (.iinc 3 (-1), 3) := by decide +kernel
theorem dX5_divideOut_38 : decode cX5_divideOut 38 = .ok (.goto (-33), 3) := by decide +kernel
theorem dX5_divideOut_41 : decode cX5_divideOut 41 = .ok (.return_, 1) := by decide +kernel
theorem dX6_init_0 : decode cX6_init 0 = .ok (.aload_n 0, 1) := by decide +kernel
theorem dX6_init_1 : decode cX6_init 1 = .ok (.invokespecial 3, 3) := by decide +kernel
theorem dX6_init_4 : decode cX6_init 4 = .ok (.aload_n 0, 1) := by decide +kernel
theorem dX6_init_5 : decode cX6_init 5 = .ok (.sipush 169, 3) := by decide +kernel
theorem dX6_init_8 : decode cX6_init 8 = .ok (.newarray .int, 2) := by decide +kernel
theorem dX6_init_10 : decode cX6_init 10 = .ok (.putfield 9, 3) := by decide +kernel
theorem dX6_init_13 : decode cX6_init 13 = .ok (.return_, 1) := by decide +kernel
theorem dX6_numberAt_0 : decode cX6_numberAt 0 = .ok (.iload_n 1, 1) := by decide +kernel
theorem dX6_numberAt_1 : decode cX6_numberAt 1 = .ok (.bipush 13, 2) := by decide +kernel
theorem dX6_numberAt_3 : decode cX6_numberAt 3 = .ok (.imul, 1) := by decide +kernel
theorem dX6_numberAt_4 : decode cX6_numberAt 4 = .ok (.iload_n 2, 1) := by decide +kernel
theorem dX6_numberAt_5 : decode cX6_numberAt 5 = .ok (.iadd, 1) := by decide +kernel
theorem dX6_numberAt_6 : decode cX6_numberAt 6 = .ok (.istore_n 3, 1) := by decide +kernel
theorem dX6_numberAt_7 : decode cX6_numberAt 7 = .ok (.iload_n 3, 1) := by decide +kernel
theorem dX6_numberAt_8 : decode cX6_numberAt 8 = .ok (.ifCond .lt 12, 3) := by decide +kernel
theorem dX6_numberAt_11 : decode cX6_numberAt 11 = .ok (.iload_n 3, 1) := by decide +kernel
theorem dX6_numberAt_12 : decode cX6_numberAt 12 = .ok (.aload_n 0, 1) := by decide +kernel
theorem dX6_numberAt_13 : decode cX6_numberAt 13 = .ok (.getfield 9, 3) := by decide +kernel
theorem dX6_numberAt_16 : decode cX6_numberAt 16 = .ok (.arraylength, 1) := by decide +kernel
theorem dX6_numberAt_17 : decode cX6_numberAt 17 = .ok (.if_icmp .lt 7, 3) := by decide +kernel
theorem dX6_numberAt_20 : decode cX6_numberAt 20 = .ok (.iconst 0, 1) := by decide +kernel
theorem dX6_numberAt_21 : decode cX6_numberAt 21 = .ok (.goto 9, 3) := by decide +kernel
theorem dX6_numberAt_24 : decode cX6_numberAt 24 = .ok (.aload_n 0, 1) := by decide +kernel
theorem dX6_numberAt_25 : decode cX6_numberAt 25 = .ok (.getfield 9, 3) := by decide +kernel
theorem dX6_numberAt_28 : decode cX6_numberAt 28 = .ok (.iload_n 3, 1) := by decide +kernel
theorem dX6_numberAt_29 : decode cX6_numberAt 29 = .ok (.iaload, 1) := by decide +kernel
theorem dX6_numberAt_30 : decode cX6_numberAt 30 = .ok (.ireturn, 1) := by decide +kernel
theorem dX6_setNumberAt_0 : decode cX6_setNumberAt 0 = .ok (.iload_n 1, 1) := by decide +kernel
theorem dX6_setNumberAt_1 : decode cX6_setNumberAt 1 = .ok (.bipush 13, 2) := by decide +kernel
theorem dX6_setNumberAt_3 : decode cX6_setNumberAt 3 = .ok (.imul, 1) := by decide +kernel
theorem dX6_setNumberAt_4 : decode cX6_setNumberAt 4 = .ok (.iload_n 2, 1) := by decide +kernel
theorem dX6_setNumberAt_5 : decode cX6_setNumberAt 5 = .ok (.iadd, 1) := by decide +kernel
theorem dX6_setNumberAt_6 : decode cX6_setNumberAt 6 = .ok (.istore 4, 2) := by decide +kernel
theorem dX6_setNumberAt_8 : decode cX6_setNumberAt 8 = .ok (.iload 4, 2) := by decide +kernel
theorem dX6_setNumberAt_10 : decode cX6_setNumberAt 10 = .ok (.ifCond .lt 21, 3) := by decide +kernel
theorem dX6_setNumberAt_13 : decode cX6_setNumberAt 13 = .ok (.iload 4, 2) := by decide +kernel
theorem dX6_setNumberAt_15 : decode cX6_setNumberAt 15 = .ok (.aload_n 0, 1) := by decide +kernel
theorem dX6_setNumberAt_16 : decode cX6_setNumberAt 16 = .ok (.getfield 9, 3) := by decide +kernel
theorem dX6_setNumberAt_19 : decode cX6_setNumberAt 19 = .ok (.arraylength, 1) := by decide +kernel
theorem dX6_setNumberAt_20 : decode cX6_setNumberAt 20 = .ok (.if_icmp .ge 11, 3) := by decide +kernel
theorem dX6_setNumberAt_23 : decode cX6_setNumberAt 23 = .ok (.aload_n 0, 1) := by decide +kernel
theorem dX6_setNumberAt_24 : decode cX6_setNumberAt 24 = .ok (.getfield 9, 3) := by decide +kernel
theorem dX6_setNumberAt_27 : decode cX6_setNumberAt 27 = .ok (.iload 4, 2) := by decide +kernel
theorem dX6_setNumberAt_29 : decode cX6_setNumberAt 29 = .ok (.iload_n 3, 1) := by decide +kernel
theorem dX6_setNumberAt_30 : decode cX6_setNumberAt 30 = .ok (.iastore, 1) := by decide +kernel
theorem dX6_setNumberAt_31 : decode cX6_setNumberAt 31 = .ok (.return_, 1) := by decide +kernel
theorem dX7_init_0 : decode cX7_init 0 = .ok (.aload_n 0, 1) := by decide +kernel
theorem dX7_init_1 : decode cX7_init 1 = .ok (.invokespecial 3, 3) := by decide +kernel
theorem dX7_init_4 : decode cX7_init 4 = .ok (.aload_n 0, 1) := by decide +kernel
theorem dX7_init_5 : decode cX7_init 5 = .ok (.sipush 301, 3) := by decide +kernel
theorem dX7_init_8 : decode cX7_init 8 = .ok (.newarray .int, 2) := by decide +kernel
theorem dX7_init_10 : decode cX7_init 10 = .ok (.putfield 9, 3) := by decide +kernel
theorem dX7_init_13 : decode cX7_init 13 = .ok (.return_, 1) := by decide +kernel
theorem dX7_addStart_0 : decode cX7_addStart 0 = .ok (.aload_n 0, 1) := by decide +kernel
theorem dX7_addStart_1 : decode cX7_addStart 1 = .ok (.getfield 15, 3) := by decide +kernel
theorem dX7_addStart_4 : decode cX7_addStart 4 = .ok (.bipush 12, 2) := by decide +kernel
theorem dX7_addStart_6 : decode cX7_addStart 6 = .ok (.if_icmp .lt 5, 3) := by decide +kernel
theorem dX7_addStart_9 : decode cX7_addStart 9 = .ok (.iconst 0, 1) := by decide +kernel
theorem dX7_addStart_10 : decode cX7_addStart 10 = .ok (.ireturn, 1) := by decide +kernel
theorem dX7_addStart_11 : decode cX7_addStart 11 = .ok (.aload_n 0, 1) := by decide +kernel
theorem dX7_addStart_12 : decode cX7_addStart 12 = .ok (.getfield 9, 3) := by decide +kernel
theorem dX7_addStart_15 : decode cX7_addStart 15 = .ok (.aload_n 0, 1) := by decide +kernel
theorem dX7_addStart_16 : decode cX7_addStart 16 = .ok (.getfield 15, 3) := by decide +kernel
theorem dX7_addStart_19 : decode cX7_addStart 19 = .ok (.iload_n 1, 1) := by decide +kernel
theorem dX7_addStart_20 : decode cX7_addStart 20 = .ok (.iastore, 1) := by decide +kernel
theorem dX7_addStart_21 : decode cX7_addStart 21 = .ok (.aload_n 0, 1) := by decide +kernel
theorem dX7_addStart_22 : decode cX7_addStart 22 = .ok (.dup, 1) := by decide +kernel
theorem dX7_addStart_23 : decode cX7_addStart 23 = .ok (.getfield 15, 3) := by decide +kernel
theorem dX7_addStart_26 : decode cX7_addStart 26 = .ok (.iconst 1, 1) := by decide +kernel
theorem dX7_addStart_27 : decode cX7_addStart 27 = .ok (.iadd, 1) := by decide +kernel
theorem dX7_addStart_28 : decode cX7_addStart 28 = .ok (.putfield 15, 3) := by decide +kernel
theorem dX7_addStart_31 : decode cX7_addStart 31 = .ok (.aload_n 0, 1) := by decide +kernel
theorem dX7_addStart_32 : decode cX7_addStart 32 = .ok (.aload_n 0, 1) := by decide +kernel
theorem dX7_addStart_33 : decode cX7_addStart 33 = .ok (.getfield 15, 3) := by decide +kernel
theorem dX7_addStart_36 : decode cX7_addStart 36 = .ok (.putfield 19, 3) := by decide +kernel
theorem dX7_addStart_39 : decode cX7_addStart 39 = .ok (.iconst 1, 1) := by decide +kernel
theorem dX7_addStart_40 : decode cX7_addStart 40 = .ok (.ireturn, 1) := by decide +kernel
theorem dX7_forgetConclusions_0 : decode cX7_forgetConclusions 0 = .ok (.aload_n 0, 1) := by decide +kernel
theorem dX7_forgetConclusions_1 : decode cX7_forgetConclusions 1 = .ok (.aload_n 0, 1) := by decide +kernel
theorem dX7_forgetConclusions_2 : decode cX7_forgetConclusions 2 = .ok (.getfield 15, 3) := by decide +kernel
theorem dX7_forgetConclusions_5 : decode cX7_forgetConclusions 5 = .ok (.putfield 19, 3) := by decide +kernel
theorem dX7_forgetConclusions_8 : decode cX7_forgetConclusions 8 = .ok (.return_, 1) := by decide +kernel
theorem dX7_empty_0 : decode cX7_empty 0 = .ok (.aload_n 0, 1) := by decide +kernel
theorem dX7_empty_1 : decode cX7_empty 1 = .ok (.iconst 0, 1) := by decide +kernel
theorem dX7_empty_2 : decode cX7_empty 2 = .ok (.putfield 15, 3) := by decide +kernel
theorem dX7_empty_5 : decode cX7_empty 5 = .ok (.aload_n 0, 1) := by decide +kernel
theorem dX7_empty_6 : decode cX7_empty 6 = .ok (.iconst 0, 1) := by decide +kernel
theorem dX7_empty_7 : decode cX7_empty 7 = .ok (.putfield 19, 3) := by decide +kernel
theorem dX7_empty_10 : decode cX7_empty 10 = .ok (.return_, 1) := by decide +kernel
theorem dX7_at_0 : decode cX7_at 0 = .ok (.aload_n 1, 1) := by decide +kernel
theorem dX7_at_1 : decode cX7_at 1 = .ok (.invokevirtual 22, 3) := by decide +kernel
theorem dX7_at_4 : decode cX7_at 4 = .ok (.istore_n 3, 1) := by decide +kernel
theorem dX7_at_5 : decode cX7_at 5 = .ok (.iload_n 2, 1) := by decide +kernel
theorem dX7_at_6 : decode cX7_at 6 = .ok (.ifCond .lt 22, 3) := by decide +kernel
theorem dX7_at_9 : decode cX7_at 9 = .ok (.iload_n 2, 1) := by decide +kernel
theorem dX7_at_10 : decode cX7_at 10 = .ok (.sipush 301, 3) := by decide +kernel
theorem dX7_at_13 : decode cX7_at 13 = .ok (.if_icmp .ge 15, 3) := by decide +kernel
theorem dX7_at_16 : decode cX7_at 16 = .ok (.iload_n 3, 1) := by decide +kernel
theorem dX7_at_17 : decode cX7_at 17 = .ok (.ifCond .lt 11, 3) := by decide +kernel
theorem dX7_at_20 : decode cX7_at 20 = .ok (.aload_n 0, 1) := by decide +kernel
theorem dX7_at_21 : decode cX7_at 21 = .ok (.getfield 15, 3) := by decide +kernel
theorem dX7_at_24 : decode cX7_at 24 = .ok (.iload_n 3, 1) := by decide +kernel
theorem dX7_at_25 : decode cX7_at 25 = .ok (.if_icmp .ge 5, 3) := by decide +kernel
theorem dX7_at_28 : decode cX7_at 28 = .ok (.iconst (-1), 1) := by decide +kernel
theorem dX7_at_29 : decode cX7_at 29 = .ok (.ireturn, 1) := by decide +kernel
theorem dX7_at_30 : decode cX7_at 30 = .ok (.aload_n 0, 1) := by decide +kernel
theorem dX7_at_31 : decode cX7_at 31 = .ok (.getfield 19, 3) := by decide +kernel
theorem dX7_at_34 : decode cX7_at 34 = .ok (.istore 4, 2) := by decide +kernel
theorem dX7_at_36 : decode cX7_at 36 = .ok (.iload 4, 2) := by decide +kernel
theorem dX7_at_38 : decode cX7_at 38 = .ok (.iload_n 2, 1) := by decide +kernel
theorem dX7_at_39 : decode cX7_at 39 = .ok (.if_icmp .gt 68, 3) := by decide +kernel
theorem dX7_at_42 : decode cX7_at 42 = .ok (.iload 4, 2) := by decide +kernel
theorem dX7_at_44 : decode cX7_at 44 = .ok (.iload_n 3, 1) := by decide +kernel
theorem dX7_at_45 : decode cX7_at 45 = .ok (.isub, 1) := by decide +kernel
theorem dX7_at_46 : decode cX7_at 46 = .ok (.istore 5, 2) := by decide +kernel
theorem dX7_at_48 : decode cX7_at 48 = .ok (.aload_n 1, 1) := by decide +kernel
theorem dX7_at_49 : decode cX7_at 49 = .ok (.getfield 28, 3) := by decide +kernel
theorem dX7_at_52 : decode cX7_at 52 = .ok (.iload_n 3, 1) := by decide +kernel
theorem dX7_at_53 : decode cX7_at 53 = .ok (.aaload, 1) := by decide +kernel
theorem dX7_at_54 : decode cX7_at 54 = .ok (.iload 5, 2) := by decide +kernel
theorem dX7_at_56 : decode cX7_at 56 = .ok (.invokestatic 32, 3) := by decide +kernel
theorem dX7_at_59 : decode cX7_at 59 = .ok (.istore 6, 2) := by decide +kernel
theorem dX7_at_61 : decode cX7_at 61 = .ok (.iload 6, 2) := by decide +kernel
theorem dX7_at_63 : decode cX7_at 63 = .ok (.ifCond .ne 5, 3) := by decide +kernel
theorem dX7_at_66 : decode cX7_at 66 = .ok (.iconst (-1), 1) := by decide +kernel
theorem dX7_at_67 : decode cX7_at 67 = .ok (.ireturn, 1) := by decide +kernel
theorem dX7_at_68 : decode cX7_at 68 = .ok (.aload_n 0, 1) := by decide +kernel
theorem dX7_at_69 : decode cX7_at 69 = .ok (.getfield 9, 3) := by decide +kernel
theorem dX7_at_72 : decode cX7_at 72 = .ok (.iload 4, 2) := by decide +kernel
theorem dX7_at_74 : decode cX7_at 74 = .ok (.aload_n 0, 1) := by decide +kernel
theorem dX7_at_75 : decode cX7_at 75 = .ok (.aload_n 1, 1) := by decide +kernel
theorem dX7_at_76 : decode cX7_at 76 = .ok (.iload_n 3, 1) := by decide +kernel
theorem dX7_at_77 : decode cX7_at 77 = .ok (.iload 5, 2) := by decide +kernel
theorem dX7_at_79 : decode cX7_at 79 = .ok (.invokevirtual 38, 3) := by decide +kernel
theorem dX7_at_82 : decode cX7_at 82 = .ok (.iload 6, 2) := by decide +kernel
theorem dX7_at_84 : decode cX7_at 84 = .ok (.invokestatic 42, 3) := by decide +kernel
theorem dX7_at_87 : decode cX7_at 87 = .ok (.imul, 1) := by decide +kernel
theorem dX7_at_88 : decode cX7_at 88 = .ok (.sipush 32003, 3) := by decide +kernel
theorem dX7_at_91 : decode cX7_at 91 = .ok (.irem, 1) := by decide +kernel
theorem dX7_at_92 : decode cX7_at 92 = .ok (.iastore, 1) := by decide +kernel
theorem dX7_at_93 : decode cX7_at 93 = .ok (.aload_n 0, 1) := by decide +kernel
theorem dX7_at_94 : decode cX7_at 94 = .ok (.iload 4, 2) := by decide +kernel
theorem dX7_at_96 : decode cX7_at 96 = .ok (.iconst 1, 1) := by decide +kernel
theorem dX7_at_97 : decode cX7_at 97 = .ok (.iadd, 1) := by decide +kernel
theorem dX7_at_98 : decode cX7_at 98 = .ok (.putfield 19, 3) := by decide +kernel
theorem dX7_at_101 : decode cX7_at 101 = .ok (.iinc 4 1, 3) := by decide +kernel
theorem dX7_at_104 : decode cX7_at 104 = .ok (.goto (-68), 3) := by decide +kernel
theorem dX7_at_107 : decode cX7_at 107 = .ok (.aload_n 0, 1) := by decide +kernel
theorem dX7_at_108 : decode cX7_at 108 = .ok (.getfield 9, 3) := by decide +kernel
theorem dX7_at_111 : decode cX7_at 111 = .ok (.iload_n 2, 1) := by decide +kernel
theorem dX7_at_112 : decode cX7_at 112 = .ok (.iaload, 1) := by decide +kernel
theorem dX7_at_113 : decode cX7_at 113 = .ok (.ireturn, 1) := by decide +kernel
theorem dX7_demand_0 : decode cX7_demand 0 = .ok (.aload_n 1, 1) := by decide +kernel
theorem dX7_demand_1 : decode cX7_demand 1 = .ok (.getfield 48, 3) := by decide +kernel
theorem dX7_demand_4 : decode cX7_demand 4 = .ok (.iload_n 3, 1) := by decide +kernel
theorem dX7_demand_5 : decode cX7_demand 5 = .ok (.invokestatic 32, 3) := by decide +kernel
theorem dX7_demand_8 : decode cX7_demand 8 = .ok (.istore 4, 2) := by decide +kernel
theorem dX7_demand_10 : decode cX7_demand 10 = .ok (.iconst 0, 1) := by decide +kernel
theorem dX7_demand_11 : decode cX7_demand 11 = .ok (.istore 5, 2) := by decide +kernel
theorem dX7_demand_13 : decode cX7_demand 13 = .ok (.iload 5, 2) := by decide +kernel
theorem dX7_demand_15 : decode cX7_demand 15 = .ok (.iload_n 2, 1) := by decide +kernel
theorem dX7_demand_16 : decode cX7_demand 16 = .ok (.if_icmp .ge 40, 3) := by decide +kernel
theorem dX7_demand_19 : decode cX7_demand 19 = .ok (.aload_n 1, 1) := by decide +kernel
theorem dX7_demand_20 : decode cX7_demand 20 = .ok (.getfield 28, 3) := by decide +kernel
theorem dX7_demand_23 : decode cX7_demand 23 = .ok (.iload 5, 2) := by decide +kernel
theorem dX7_demand_25 : decode cX7_demand 25 = .ok (.aaload, 1) := by decide +kernel
theorem dX7_demand_26 : decode cX7_demand 26 = .ok (.iload_n 3, 1) := by decide +kernel
theorem dX7_demand_27 : decode cX7_demand 27 = .ok (.invokestatic 32, 3) := by decide +kernel
theorem dX7_demand_30 : decode cX7_demand 30 = .ok (.istore 6, 2) := by decide +kernel
theorem dX7_demand_32 : decode cX7_demand 32 = .ok (.iload 4, 2) := by decide +kernel
theorem dX7_demand_34 : decode cX7_demand 34 = .ok (.iload 6, 2) := by decide +kernel
theorem dX7_demand_36 : decode cX7_demand 36 = .ok (.aload_n 0, 1) := by decide +kernel
theorem dX7_demand_37 : decode cX7_demand 37 = .ok (.getfield 9, 3) := by decide +kernel
theorem dX7_demand_40 : decode cX7_demand 40 = .ok (.iload_n 3, 1) := by decide +kernel
theorem dX7_demand_41 : decode cX7_demand 41 = .ok (.iload 5, 2) := by decide +kernel
theorem dX7_demand_43 : decode cX7_demand 43 = .ok (.iadd, 1) := by decide +kernel
theorem dX7_demand_44 : decode cX7_demand 44 = .ok (.iaload, 1) := by decide +kernel
theorem dX7_demand_45 : decode cX7_demand 45 = .ok (.invokestatic 51, 3) := by decide +kernel
theorem dX7_demand_48 : decode cX7_demand 48 = .ok (.istore 4, 2) := by decide +kernel
theorem dX7_demand_50 : decode cX7_demand 50 = .ok (.iinc 5 1, 3) := by decide +kernel
theorem dX7_demand_53 : decode cX7_demand 53 = .ok (.goto (-40), 3) := by decide +kernel
theorem dX7_demand_56 : decode cX7_demand 56 = .ok (.iload 4, 2) := by decide +kernel
theorem dX7_demand_58 : decode cX7_demand 58 = .ok (.ireturn, 1) := by decide +kernel
theorem dX8_init_0 : decode cX8_init 0 = .ok (.aload_n 0, 1) := by decide +kernel
theorem dX8_init_1 : decode cX8_init 1 = .ok (.invokespecial 1, 3) := by decide +kernel
theorem dX8_init_4 : decode cX8_init 4 = .ok (.aload_n 0, 1) := by decide +kernel
theorem dX8_init_5 : decode cX8_init 5 = .ok (.new 7, 3) := by decide +kernel
theorem dX8_init_8 : decode cX8_init 8 = .ok (.dup, 1) := by decide +kernel
theorem dX8_init_9 : decode cX8_init 9 = .ok (.iconst 1, 1) := by decide +kernel
theorem dX8_init_10 : decode cX8_init 10 = .ok (.iconst 4, 1) := by decide +kernel
theorem dX8_init_11 : decode cX8_init 11 = .ok (.iload_n 1, 1) := by decide +kernel
theorem dX8_init_12 : decode cX8_init 12 = .ok (.invokestatic 11, 3) := by decide +kernel
theorem dX8_init_15 : decode cX8_init 15 = .ok (.invokestatic 17, 3) := by decide +kernel
theorem dX8_init_18 : decode cX8_init 18 = .ok (.invokespecial 20, 3) := by decide +kernel
theorem dX8_init_21 : decode cX8_init 21 = .ok (.putfield 23, 3) := by decide +kernel
theorem dX8_init_24 : decode cX8_init 24 = .ok (.aload_n 0, 1) := by decide +kernel
theorem dX8_init_25 : decode cX8_init 25 = .ok (.new 27, 3) := by decide +kernel
theorem dX8_init_28 : decode cX8_init 28 = .ok (.dup, 1) := by decide +kernel
theorem dX8_init_29 : decode cX8_init 29 = .ok (.invokespecial 29, 3) := by decide +kernel
theorem dX8_init_32 : decode cX8_init 32 = .ok (.putfield 30, 3) := by decide +kernel
theorem dX8_init_35 : decode cX8_init 35 = .ok (.aload_n 0, 1) := by decide +kernel
theorem dX8_init_36 : decode cX8_init 36 = .ok (.new 34, 3) := by decide +kernel
theorem dX8_init_39 : decode cX8_init 39 = .ok (.dup, 1) := by decide +kernel
theorem dX8_init_40 : decode cX8_init 40 = .ok (.aload_n 0, 1) := by decide +kernel
theorem dX8_init_41 : decode cX8_init 41 = .ok (.getfield 30, 3) := by decide +kernel
theorem dX8_init_44 : decode cX8_init 44 = .ok (.invokespecial 36, 3) := by decide +kernel
theorem dX8_init_47 : decode cX8_init 47 = .ok (.putfield 39, 3) := by decide +kernel
theorem dX8_init_50 : decode cX8_init 50 = .ok (.aload_n 0, 1) := by decide +kernel
theorem dX8_init_51 : decode cX8_init 51 = .ok (.new 43, 3) := by decide +kernel
theorem dX8_init_54 : decode cX8_init 54 = .ok (.dup, 1) := by decide +kernel
theorem dX8_init_55 : decode cX8_init 55 = .ok (.invokespecial 45, 3) := by decide +kernel
theorem dX8_init_58 : decode cX8_init 58 = .ok (.putfield 46, 3) := by decide +kernel
theorem dX8_init_61 : decode cX8_init 61 = .ok (.aload_n 0, 1) := by decide +kernel
theorem dX8_init_62 : decode cX8_init 62 = .ok (.new 50, 3) := by decide +kernel
theorem dX8_init_65 : decode cX8_init 65 = .ok (.dup, 1) := by decide +kernel
theorem dX8_init_66 : decode cX8_init 66 = .ok (.invokespecial 52, 3) := by decide +kernel
theorem dX8_init_69 : decode cX8_init 69 = .ok (.putfield 53, 3) := by decide +kernel
theorem dX8_init_72 : decode cX8_init 72 = .ok (.aload_n 0, 1) := by decide +kernel
theorem dX8_init_73 : decode cX8_init 73 = .ok (.bipush 13, 2) := by decide +kernel
theorem dX8_init_75 : decode cX8_init 75 = .ok (.newarray .int, 2) := by decide +kernel
theorem dX8_init_77 : decode cX8_init 77 = .ok (.putfield 57, 3) := by decide +kernel
theorem dX8_init_80 : decode cX8_init 80 = .ok (.return_, 1) := by decide +kernel
theorem dX8_factor_0 : decode cX8_factor 0 = .ok (.iload_n 1, 1) := by decide +kernel
theorem dX8_factor_1 : decode cX8_factor 1 = .ok (.ifCond .lt 14, 3) := by decide +kernel
theorem dX8_factor_4 : decode cX8_factor 4 = .ok (.iload_n 1, 1) := by decide +kernel
theorem dX8_factor_5 : decode cX8_factor 5 = .ok (.aload_n 0, 1) := by decide +kernel
theorem dX8_factor_6 : decode cX8_factor 6 = .ok (.getfield 23, 3) := by decide +kernel
theorem dX8_factor_9 : decode cX8_factor 9 = .ok (.getfield 61, 3) := by decide +kernel
theorem dX8_factor_12 : decode cX8_factor 12 = .ok (.if_icmp .le 13, 3) := by decide +kernel
theorem dX8_factor_15 : decode cX8_factor 15 = .ok (.new 65, 3) := by decide +kernel
theorem dX8_factor_18 : decode cX8_factor 18 = .ok (.dup, 1) := by decide +kernel
theorem dX8_factor_19 : decode cX8_factor 19 = .ok (.ldc 67, 2) := by decide +kernel
theorem dX8_factor_21 : decode cX8_factor 21 = .ok (.invokespecial 69, 3) := by decide +kernel
theorem dX8_factor_24 : decode cX8_factor 24 = .ok (.athrow, 1) := by decide +kernel
theorem dX8_factor_25 : decode cX8_factor 25 = .ok (.iload_n 2, 1) := by decide +kernel
theorem dX8_factor_26 : decode cX8_factor 26 = .ok (.ifCond .lt 9, 3) := by decide +kernel
theorem dX8_factor_29 : decode cX8_factor 29 = .ok (.iload_n 2, 1) := by decide +kernel
theorem dX8_factor_30 : decode cX8_factor 30 = .ok (.bipush 7, 2) := by decide +kernel
theorem dX8_factor_32 : decode cX8_factor 32 = .ok (.if_icmp .lt 13, 3) := by decide +kernel
theorem dX8_factor_35 : decode cX8_factor 35 = .ok (.new 72, 3) := by decide +kernel
theorem dX8_factor_38 : decode cX8_factor 38 = .ok (.dup, 1) := by decide +kernel
theorem dX8_factor_39 : decode cX8_factor 39 = .ok (.ldc 74, 2) := by decide +kernel
theorem dX8_factor_41 : decode cX8_factor 41 = .ok (.invokespecial 76, 3) := by decide +kernel
theorem dX8_factor_44 : decode cX8_factor 44 = .ok (.athrow, 1) := by decide +kernel
theorem dX8_factor_45 : decode cX8_factor 45 = .ok (.lload 5, 2) := by decide +kernel
theorem dX8_factor_47 : decode cX8_factor 47 = .ok (.invokestatic 77, 3) := by decide +kernel
theorem dX8_factor_50 : decode cX8_factor 50 = .ok (.ifCond .ne 13, 3) := by decide +kernel
theorem dX8_factor_53 : decode cX8_factor 53 = .ok (.new 83, 3) := by decide +kernel
theorem dX8_factor_56 : decode cX8_factor 56 = .ok (.dup, 1) := by decide +kernel
theorem dX8_factor_57 : decode cX8_factor 57 = .ok (.ldc 85, 2) := by decide +kernel
theorem dX8_factor_59 : decode cX8_factor 59 = .ok (.invokespecial 87, 3) := by decide +kernel
theorem dX8_factor_62 : decode cX8_factor 62 = .ok (.athrow, 1) := by decide +kernel
theorem dX8_factor_63 : decode cX8_factor 63 = .ok (.aload_n 0, 1) := by decide +kernel
theorem dX8_factor_64 : decode cX8_factor 64 = .ok (.aload_n 0, 1) := by decide +kernel
theorem dX8_factor_65 : decode cX8_factor 65 = .ok (.getfield 23, 3) := by decide +kernel
theorem dX8_factor_68 : decode cX8_factor 68 = .ok (.getfield 88, 3) := by decide +kernel
theorem dX8_factor_71 : decode cX8_factor 71 = .ok (.iload_n 1, 1) := by decide +kernel
theorem dX8_factor_72 : decode cX8_factor 72 = .ok (.aaload, 1) := by decide +kernel
theorem dX8_factor_73 : decode cX8_factor 73 = .ok (.iload_n 2, 1) := by decide +kernel
theorem dX8_factor_74 : decode cX8_factor 74 = .ok (.lload_n 3, 1) := by decide +kernel
theorem dX8_factor_75 : decode cX8_factor 75 = .ok (.lload 5, 2) := by decide +kernel
theorem dX8_factor_77 : decode cX8_factor 77 = .ok (.invokestatic 92, 3) := by decide +kernel
theorem dX8_factor_80 : decode cX8_factor 80 = .ok (.invokevirtual 96, 3) := by decide +kernel
theorem dX8_factor_83 : decode cX8_factor 83 = .ok (.ireturn, 1) := by decide +kernel
theorem dX8_right_0 : decode cX8_right 0 = .ok (.iload_n 1, 1) := by decide +kernel
theorem dX8_right_1 : decode cX8_right 1 = .ok (.ifCond .lt 9, 3) := by decide +kernel
theorem dX8_right_4 : decode cX8_right 4 = .ok (.iload_n 1, 1) := by decide +kernel
theorem dX8_right_5 : decode cX8_right 5 = .ok (.bipush 11, 2) := by decide +kernel
theorem dX8_right_7 : decode cX8_right 7 = .ok (.if_icmp .lt 13, 3) := by decide +kernel
theorem dX8_right_10 : decode cX8_right 10 = .ok (.new 72, 3) := by decide +kernel
theorem dX8_right_13 : decode cX8_right 13 = .ok (.dup, 1) := by decide +kernel
theorem dX8_right_14 : decode cX8_right 14 = .ok (.ldc 100, 2) := by decide +kernel
theorem dX8_right_16 : decode cX8_right 16 = .ok (.invokespecial 76, 3) := by decide +kernel
theorem dX8_right_19 : decode cX8_right 19 = .ok (.athrow, 1) := by decide +kernel
theorem dX8_right_20 : decode cX8_right 20 = .ok (.lload 4, 2) := by decide +kernel
theorem dX8_right_22 : decode cX8_right 22 = .ok (.invokestatic 77, 3) := by decide +kernel
theorem dX8_right_25 : decode cX8_right 25 = .ok (.ifCond .ne 13, 3) := by decide +kernel
theorem dX8_right_28 : decode cX8_right 28 = .ok (.new 83, 3) := by decide +kernel
theorem dX8_right_31 : decode cX8_right 31 = .ok (.dup, 1) := by decide +kernel
theorem dX8_right_32 : decode cX8_right 32 = .ok (.ldc 85, 2) := by decide +kernel
theorem dX8_right_34 : decode cX8_right 34 = .ok (.invokespecial 87, 3) := by decide +kernel
theorem dX8_right_37 : decode cX8_right 37 = .ok (.athrow, 1) := by decide +kernel
theorem dX8_right_38 : decode cX8_right 38 = .ok (.aload_n 0, 1) := by decide +kernel
theorem dX8_right_39 : decode cX8_right 39 = .ok (.aload_n 0, 1) := by decide +kernel
theorem dX8_right_40 : decode cX8_right 40 = .ok (.getfield 23, 3) := by decide +kernel
theorem dX8_right_43 : decode cX8_right 43 = .ok (.getfield 102, 3) := by decide +kernel
theorem dX8_right_46 : decode cX8_right 46 = .ok (.iload_n 1, 1) := by decide +kernel
theorem dX8_right_47 : decode cX8_right 47 = .ok (.lload_n 2, 1) := by decide +kernel
theorem dX8_right_48 : decode cX8_right 48 = .ok (.lload 4, 2) := by decide +kernel
theorem dX8_right_50 : decode cX8_right 50 = .ok (.invokestatic 92, 3) := by decide +kernel
theorem dX8_right_53 : decode cX8_right 53 = .ok (.invokevirtual 96, 3) := by decide +kernel
theorem dX8_right_56 : decode cX8_right 56 = .ok (.ireturn, 1) := by decide +kernel
theorem dX8_run_0 : decode cX8_run 0 = .ok (.aload_n 0, 1) := by decide +kernel
theorem dX8_run_1 : decode cX8_run 1 = .ok (.getfield 23, 3) := by decide +kernel
theorem dX8_run_4 : decode cX8_run 4 = .ok (.invokevirtual 105, 3) := by decide +kernel
theorem dX8_run_7 : decode cX8_run 7 = .ok (.ifCond .ge 5, 3) := by decide +kernel
theorem dX8_run_10 : decode cX8_run 10 = .ok (.iconst 1, 1) := by decide +kernel
theorem dX8_run_11 : decode cX8_run 11 = .ok (.ireturn, 1) := by decide +kernel
theorem dX8_run_12 : decode cX8_run 12 = .ok (.aload_n 0, 1) := by decide +kernel
theorem dX8_run_13 : decode cX8_run 13 = .ok (.getfield 39, 3) := by decide +kernel
theorem dX8_run_16 : decode cX8_run 16 = .ok (.getfield 109, 3) := by decide +kernel
theorem dX8_run_19 : decode cX8_run 19 = .ok (.ifCond .ne 14, 3) := by decide +kernel
theorem dX8_run_22 : decode cX8_run 22 = .ok (.aload_n 0, 1) := by decide +kernel
theorem dX8_run_23 : decode cX8_run 23 = .ok (.getfield 39, 3) := by decide +kernel
theorem dX8_run_26 : decode cX8_run 26 = .ok (.aload_n 0, 1) := by decide +kernel
theorem dX8_run_27 : decode cX8_run 27 = .ok (.getfield 23, 3) := by decide +kernel
theorem dX8_run_30 : decode cX8_run 30 = .ok (.invokevirtual 113, 3) := by decide +kernel
theorem dX8_run_33 : decode cX8_run 33 = .ok (.iconst 0, 1) := by decide +kernel
theorem dX8_run_34 : decode cX8_run 34 = .ok (.ireturn, 1) := by decide +kernel
theorem dX8_polynomials_0 : decode cX8_polynomials 0 = .ok (.aload_n 0, 1) := by decide +kernel
theorem dX8_polynomials_1 : decode cX8_polynomials 1 = .ok (.invokevirtual 117, 3) := by decide +kernel
theorem dX8_polynomials_4 : decode cX8_polynomials 4 = .ok (.aload_n 0, 1) := by decide +kernel
theorem dX8_polynomials_5 : decode cX8_polynomials 5 = .ok (.getfield 39, 3) := by decide +kernel
theorem dX8_polynomials_8 : decode cX8_polynomials 8 = .ok (.getfield 120, 3) := by decide +kernel
theorem dX8_polynomials_11 : decode cX8_polynomials 11 = .ok (.getfield 124, 3) := by decide +kernel
theorem dX8_polynomials_14 : decode cX8_polynomials 14 = .ok (.ireturn, 1) := by decide +kernel
theorem dX8_answer_0 : decode cX8_answer 0 = .ok (.aload_n 0, 1) := by decide +kernel
theorem dX8_answer_1 : decode cX8_answer 1 = .ok (.invokevirtual 117, 3) := by decide +kernel
theorem dX8_answer_4 : decode cX8_answer 4 = .ok (.iload_n 2, 1) := by decide +kernel
theorem dX8_answer_5 : decode cX8_answer 5 = .ok (.invokestatic 129, 3) := by decide +kernel
theorem dX8_answer_8 : decode cX8_answer 8 = .ok (.iload_n 1, 1) := by decide +kernel
theorem dX8_answer_9 : decode cX8_answer 9 = .ok (.iconst (-1), 1) := by decide +kernel
theorem dX8_answer_10 : decode cX8_answer 10 = .ok (.if_icmp .ne 23, 3) := by decide +kernel
theorem dX8_answer_13 : decode cX8_answer 13 = .ok (.aload_n 0, 1) := by decide +kernel
theorem dX8_answer_14 : decode cX8_answer 14 = .ok (.getfield 39, 3) := by decide +kernel
theorem dX8_answer_17 : decode cX8_answer 17 = .ok (.getfield 132, 3) := by decide +kernel
theorem dX8_answer_20 : decode cX8_answer 20 = .ok (.ifCond .eq 13, 3) := by decide +kernel
theorem dX8_answer_23 : decode cX8_answer 23 = .ok (.aload_n 0, 1) := by decide +kernel
theorem dX8_answer_24 : decode cX8_answer 24 = .ok (.getfield 39, 3) := by decide +kernel
theorem dX8_answer_27 : decode cX8_answer 27 = .ok (.getfield 135, 3) := by decide +kernel
theorem dX8_answer_30 : decode cX8_answer 30 = .ok (.iload_n 2, 1) := by decide +kernel
theorem dX8_answer_31 : decode cX8_answer 31 = .ok (.iaload, 1) := by decide +kernel
theorem dX8_answer_32 : decode cX8_answer 32 = .ok (.ireturn, 1) := by decide +kernel
theorem dX8_answer_33 : decode cX8_answer 33 = .ok (.iload_n 1, 1) := by decide +kernel
theorem dX8_answer_34 : decode cX8_answer 34 = .ok (.ifCond .lt 17, 3) := by decide +kernel
theorem dX8_answer_37 : decode cX8_answer 37 = .ok (.iload_n 1, 1) := by decide +kernel
theorem dX8_answer_38 : decode cX8_answer 38 = .ok (.aload_n 0, 1) := by decide +kernel
theorem dX8_answer_39 : decode cX8_answer 39 = .ok (.getfield 39, 3) := by decide +kernel
theorem dX8_answer_42 : decode cX8_answer 42 = .ok (.getfield 120, 3) := by decide +kernel
theorem dX8_answer_45 : decode cX8_answer 45 = .ok (.getfield 124, 3) := by decide +kernel
theorem dX8_answer_48 : decode cX8_answer 48 = .ok (.if_icmp .lt 13, 3) := by decide +kernel
theorem dX8_answer_51 : decode cX8_answer 51 = .ok (.new 72, 3) := by decide +kernel
theorem dX8_answer_54 : decode cX8_answer 54 = .ok (.dup, 1) := by decide +kernel
theorem dX8_answer_55 : decode cX8_answer 55 = .ok (.ldc 138, 2) := by decide +kernel
theorem dX8_answer_57 : decode cX8_answer 57 = .ok (.invokespecial 76, 3) := by decide +kernel
theorem dX8_answer_60 : decode cX8_answer 60 = .ok (.athrow, 1) := by decide +kernel
theorem dX8_answer_61 : decode cX8_answer 61 = .ok (.aload_n 0, 1) := by decide +kernel
theorem dX8_answer_62 : decode cX8_answer 62 = .ok (.getfield 39, 3) := by decide +kernel
theorem dX8_answer_65 : decode cX8_answer 65 = .ok (.getfield 120, 3) := by decide +kernel
theorem dX8_answer_68 : decode cX8_answer 68 = .ok (.iload_n 1, 1) := by decide +kernel
theorem dX8_answer_69 : decode cX8_answer 69 = .ok (.iload_n 2, 1) := by decide +kernel
theorem dX8_answer_70 : decode cX8_answer 70 = .ok (.invokevirtual 140, 3) := by decide +kernel
theorem dX8_answer_73 : decode cX8_answer 73 = .ok (.ireturn, 1) := by decide +kernel
theorem dX8_meets_0 : decode cX8_meets 0 = .ok (.aload_n 0, 1) := by decide +kernel
theorem dX8_meets_1 : decode cX8_meets 1 = .ok (.invokevirtual 117, 3) := by decide +kernel
theorem dX8_meets_4 : decode cX8_meets 4 = .ok (.aload_n 0, 1) := by decide +kernel
theorem dX8_meets_5 : decode cX8_meets 5 = .ok (.getfield 39, 3) := by decide +kernel
theorem dX8_meets_8 : decode cX8_meets 8 = .ok (.getfield 132, 3) := by decide +kernel
theorem dX8_meets_11 : decode cX8_meets 11 = .ok (.ireturn, 1) := by decide +kernel
theorem dX8_powers_0 : decode cX8_powers 0 = .ok (.aload_n 0, 1) := by decide +kernel
theorem dX8_powers_1 : decode cX8_powers 1 = .ok (.invokevirtual 117, 3) := by decide +kernel
theorem dX8_powers_4 : decode cX8_powers 4 = .ok (.aload_n 0, 1) := by decide +kernel
theorem dX8_powers_5 : decode cX8_powers 5 = .ok (.getfield 39, 3) := by decide +kernel
theorem dX8_powers_8 : decode cX8_powers 8 = .ok (.getfield 143, 3) := by decide +kernel
theorem dX8_powers_11 : decode cX8_powers 11 = .ok (.ireturn, 1) := by decide +kernel
theorem dX8_base_0 : decode cX8_base 0 = .ok (.aload_n 0, 1) := by decide +kernel
theorem dX8_base_1 : decode cX8_base 1 = .ok (.invokevirtual 117, 3) := by decide +kernel
theorem dX8_base_4 : decode cX8_base 4 = .ok (.aload_n 0, 1) := by decide +kernel
theorem dX8_base_5 : decode cX8_base 5 = .ok (.getfield 39, 3) := by decide +kernel
theorem dX8_base_8 : decode cX8_base 8 = .ok (.iload_n 1, 1) := by decide +kernel
theorem dX8_base_9 : decode cX8_base 9 = .ok (.invokevirtual 146, 3) := by decide +kernel
theorem dX8_base_12 : decode cX8_base 12 = .ok (.ifCond .eq 15, 3) := by decide +kernel
theorem dX8_base_15 : decode cX8_base 15 = .ok (.aload_n 0, 1) := by decide +kernel
theorem dX8_base_16 : decode cX8_base 16 = .ok (.getfield 39, 3) := by decide +kernel
theorem dX8_base_19 : decode cX8_base 19 = .ok (.getfield 150, 3) := by decide +kernel
theorem dX8_base_22 : decode cX8_base 22 = .ok (.iload_n 1, 1) := by decide +kernel
theorem dX8_base_23 : decode cX8_base 23 = .ok (.iaload, 1) := by decide +kernel
theorem dX8_base_24 : decode cX8_base 24 = .ok (.goto 4, 3) := by decide +kernel
theorem dX8_base_27 : decode cX8_base 27 = .ok (.iconst (-1), 1) := by decide +kernel
theorem dX8_base_28 : decode cX8_base 28 = .ok (.ireturn, 1) := by decide +kernel
theorem dX8_many_0 : decode cX8_many 0 = .ok (.aload_n 0, 1) := by decide +kernel
theorem dX8_many_1 : decode cX8_many 1 = .ok (.invokevirtual 117, 3) := by decide +kernel
theorem dX8_many_4 : decode cX8_many 4 = .ok (.aload_n 0, 1) := by decide +kernel
theorem dX8_many_5 : decode cX8_many 5 = .ok (.getfield 39, 3) := by decide +kernel
theorem dX8_many_8 : decode cX8_many 8 = .ok (.iload_n 1, 1) := by decide +kernel
theorem dX8_many_9 : decode cX8_many 9 = .ok (.invokevirtual 146, 3) := by decide +kernel
theorem dX8_many_12 : decode cX8_many 12 = .ok (.ifCond .eq 18, 3) := by decide +kernel
theorem dX8_many_15 : decode cX8_many 15 = .ok (.aload_n 0, 1) := by decide +kernel
theorem dX8_many_16 : decode cX8_many 16 = .ok (.getfield 39, 3) := by decide +kernel
theorem dX8_many_19 : decode cX8_many 19 = .ok (.getfield 153, 3) := by decide +kernel
theorem dX8_many_22 : decode cX8_many 22 = .ok (.iload_n 1, 1) := by decide +kernel
theorem dX8_many_23 : decode cX8_many 23 = .ok (.aaload, 1) := by decide +kernel
theorem dX8_many_24 : decode cX8_many 24 = .ok (.getfield 124, 3) := by decide +kernel
theorem dX8_many_27 : decode cX8_many 27 = .ok (.goto 4, 3) := by decide +kernel
theorem dX8_many_30 : decode cX8_many 30 = .ok (.iconst (-1), 1) := by decide +kernel
theorem dX8_many_31 : decode cX8_many 31 = .ok (.ireturn, 1) := by decide +kernel
theorem dX8_times_0 : decode cX8_times 0 = .ok (.aload_n 0, 1) := by decide +kernel
theorem dX8_times_1 : decode cX8_times 1 = .ok (.invokevirtual 117, 3) := by decide +kernel
theorem dX8_times_4 : decode cX8_times 4 = .ok (.iload_n 3, 1) := by decide +kernel
theorem dX8_times_5 : decode cX8_times 5 = .ok (.invokestatic 129, 3) := by decide +kernel
theorem dX8_times_8 : decode cX8_times 8 = .ok (.aload_n 0, 1) := by decide +kernel
theorem dX8_times_9 : decode cX8_times 9 = .ok (.getfield 39, 3) := by decide +kernel
theorem dX8_times_12 : decode cX8_times 12 = .ok (.iload_n 1, 1) := by decide +kernel
theorem dX8_times_13 : decode cX8_times 13 = .ok (.invokevirtual 146, 3) := by decide +kernel
theorem dX8_times_16 : decode cX8_times 16 = .ok (.ifCond .eq 23, 3) := by decide +kernel
theorem dX8_times_19 : decode cX8_times 19 = .ok (.iload_n 2, 1) := by decide +kernel
theorem dX8_times_20 : decode cX8_times 20 = .ok (.ifCond .lt 19, 3) := by decide +kernel
theorem dX8_times_23 : decode cX8_times 23 = .ok (.iload_n 2, 1) := by decide +kernel
theorem dX8_times_24 : decode cX8_times 24 = .ok (.aload_n 0, 1) := by decide +kernel
theorem dX8_times_25 : decode cX8_times 25 = .ok (.getfield 39, 3) := by decide +kernel
theorem dX8_times_28 : decode cX8_times 28 = .ok (.getfield 153, 3) := by decide +kernel
theorem dX8_times_31 : decode cX8_times 31 = .ok (.iload_n 1, 1) := by decide +kernel
theorem dX8_times_32 : decode cX8_times 32 = .ok (.aaload, 1) := by decide +kernel
theorem dX8_times_33 : decode cX8_times 33 = .ok (.getfield 124, 3) := by decide +kernel
theorem dX8_times_36 : decode cX8_times 36 = .ok (.if_icmp .lt 13, 3) := by decide +kernel
theorem dX8_times_39 : decode cX8_times 39 = .ok (.new 72, 3) := by decide +kernel
theorem dX8_times_42 : decode cX8_times 42 = .ok (.dup, 1) := by decide +kernel
theorem dX8_times_43 : decode cX8_times 43 = .ok (.ldc 138, 2) := by decide +kernel
theorem dX8_times_45 : decode cX8_times 45 = .ok (.invokespecial 76, 3) := by decide +kernel
theorem dX8_times_48 : decode cX8_times 48 = .ok (.athrow, 1) := by decide +kernel
theorem dX8_times_49 : decode cX8_times 49 = .ok (.aload_n 0, 1) := by decide +kernel
theorem dX8_times_50 : decode cX8_times 50 = .ok (.getfield 39, 3) := by decide +kernel
theorem dX8_times_53 : decode cX8_times 53 = .ok (.getfield 153, 3) := by decide +kernel
theorem dX8_times_56 : decode cX8_times 56 = .ok (.iload_n 1, 1) := by decide +kernel
theorem dX8_times_57 : decode cX8_times 57 = .ok (.aaload, 1) := by decide +kernel
theorem dX8_times_58 : decode cX8_times 58 = .ok (.iload_n 2, 1) := by decide +kernel
theorem dX8_times_59 : decode cX8_times 59 = .ok (.iload_n 3, 1) := by decide +kernel
theorem dX8_times_60 : decode cX8_times 60 = .ok (.invokevirtual 140, 3) := by decide +kernel
theorem dX8_times_63 : decode cX8_times 63 = .ok (.ireturn, 1) := by decide +kernel
theorem dX8_start_0 : decode cX8_start 0 = .ok (.aload_n 0, 1) := by decide +kernel
theorem dX8_start_1 : decode cX8_start 1 = .ok (.getfield 46, 3) := by decide +kernel
theorem dX8_start_4 : decode cX8_start 4 = .ok (.lload_n 1, 1) := by decide +kernel
theorem dX8_start_5 : decode cX8_start 5 = .ok (.invokestatic 77, 3) := by decide +kernel
theorem dX8_start_8 : decode cX8_start 8 = .ok (.invokevirtual 157, 3) := by decide +kernel
theorem dX8_start_11 : decode cX8_start 11 = .ok (.ireturn, 1) := by decide +kernel
theorem dX8_value_0 : decode cX8_value 0 = .ok (.iload_n 1, 1) := by decide +kernel
theorem dX8_value_1 : decode cX8_value 1 = .ok (.ifCond .lt 10, 3) := by decide +kernel
theorem dX8_value_4 : decode cX8_value 4 = .ok (.iload_n 1, 1) := by decide +kernel
theorem dX8_value_5 : decode cX8_value 5 = .ok (.sipush 301, 3) := by decide +kernel
theorem dX8_value_8 : decode cX8_value 8 = .ok (.if_icmp .lt 13, 3) := by decide +kernel
theorem dX8_value_11 : decode cX8_value 11 = .ok (.new 72, 3) := by decide +kernel
theorem dX8_value_14 : decode cX8_value 14 = .ok (.dup, 1) := by decide +kernel
theorem dX8_value_15 : decode cX8_value 15 = .ok (.ldc 160, 2) := by decide +kernel
theorem dX8_value_17 : decode cX8_value 17 = .ok (.invokespecial 76, 3) := by decide +kernel
theorem dX8_value_20 : decode cX8_value 20 = .ok (.athrow, 1) := by decide +kernel
theorem dX8_value_21 : decode cX8_value 21 = .ok (.aload_n 0, 1) := by decide +kernel
theorem dX8_value_22 : decode cX8_value 22 = .ok (.getfield 46, 3) := by decide +kernel
theorem dX8_value_25 : decode cX8_value 25 = .ok (.aload_n 0, 1) := by decide +kernel
theorem dX8_value_26 : decode cX8_value 26 = .ok (.getfield 23, 3) := by decide +kernel
theorem dX8_value_29 : decode cX8_value 29 = .ok (.iload_n 1, 1) := by decide +kernel
theorem dX8_value_30 : decode cX8_value 30 = .ok (.invokevirtual 162, 3) := by decide +kernel
theorem dX8_value_33 : decode cX8_value 33 = .ok (.ireturn, 1) := by decide +kernel
theorem dX8_singular_0 : decode cX8_singular 0 = .ok (.aload_n 0, 1) := by decide +kernel
theorem dX8_singular_1 : decode cX8_singular 1 = .ok (.getfield 23, 3) := by decide +kernel
theorem dX8_singular_4 : decode cX8_singular 4 = .ok (.invokevirtual 105, 3) := by decide +kernel
theorem dX8_singular_7 : decode cX8_singular 7 = .ok (.istore_n 2, 1) := by decide +kernel
theorem dX8_singular_8 : decode cX8_singular 8 = .ok (.iload_n 2, 1) := by decide +kernel
theorem dX8_singular_9 : decode cX8_singular 9 = .ok (.ifCond .ge 5, 3) := by decide +kernel
theorem dX8_singular_12 : decode cX8_singular 12 = .ok (.iconst (-1), 1) := by decide +kernel
theorem dX8_singular_13 : decode cX8_singular 13 = .ok (.ireturn, 1) := by decide +kernel
theorem dX8_singular_14 : decode cX8_singular 14 = .ok (.aload_n 0, 1) := by decide +kernel
theorem dX8_singular_15 : decode cX8_singular 15 = .ok (.getfield 166, 3) := by decide +kernel
theorem dX8_singular_18 : decode cX8_singular 18 = .ok (.ifCond .ne 24, 3) := by decide +kernel
theorem dX8_singular_21 : decode cX8_singular 21 = .ok (.aload_n 0, 1) := by decide +kernel
theorem dX8_singular_22 : decode cX8_singular 22 = .ok (.getfield 53, 3) := by decide +kernel
theorem dX8_singular_25 : decode cX8_singular 25 = .ok (.aload_n 0, 1) := by decide +kernel
theorem dX8_singular_26 : decode cX8_singular 26 = .ok (.getfield 23, 3) := by decide +kernel
theorem dX8_singular_29 : decode cX8_singular 29 = .ok (.getfield 88, 3) := by decide +kernel
theorem dX8_singular_32 : decode cX8_singular 32 = .ok (.iload_n 2, 1) := by decide +kernel
theorem dX8_singular_33 : decode cX8_singular 33 = .ok (.aaload, 1) := by decide +kernel
theorem dX8_singular_34 : decode cX8_singular 34 = .ok (.invokevirtual 169, 3) := by decide +kernel
theorem dX8_singular_37 : decode cX8_singular 37 = .ok (.aload_n 0, 1) := by decide +kernel
theorem dX8_singular_38 : decode cX8_singular 38 = .ok (.iconst 1, 1) := by decide +kernel
theorem dX8_singular_39 : decode cX8_singular 39 = .ok (.putfield 166, 3) := by decide +kernel
theorem dX8_singular_42 : decode cX8_singular 42 = .ok (.aload_n 0, 1) := by decide +kernel
theorem dX8_singular_43 : decode cX8_singular 43 = .ok (.getfield 53, 3) := by decide +kernel
theorem dX8_singular_46 : decode cX8_singular 46 = .ok (.iload_n 1, 1) := by decide +kernel
theorem dX8_singular_47 : decode cX8_singular 47 = .ok (.invokevirtual 172, 3) := by decide +kernel
theorem dX8_singular_50 : decode cX8_singular 50 = .ok (.ireturn, 1) := by decide +kernel
theorem dX8_end_0 : decode cX8_end 0 = .ok (.iload_n 1, 1) := by decide +kernel
theorem dX8_end_1 : decode cX8_end 1 = .ok (.ifCond .eq 18, 3) := by decide +kernel
theorem dX8_end_4 : decode cX8_end 4 = .ok (.iload_n 1, 1) := by decide +kernel
theorem dX8_end_5 : decode cX8_end 5 = .ok (.iconst 1, 1) := by decide +kernel
theorem dX8_end_6 : decode cX8_end 6 = .ok (.if_icmp .eq 13, 3) := by decide +kernel
theorem dX8_end_9 : decode cX8_end 9 = .ok (.new 72, 3) := by decide +kernel
theorem dX8_end_12 : decode cX8_end 12 = .ok (.dup, 1) := by decide +kernel
theorem dX8_end_13 : decode cX8_end 13 = .ok (.ldc 175, 2) := by decide +kernel
theorem dX8_end_15 : decode cX8_end 15 = .ok (.invokespecial 76, 3) := by decide +kernel
theorem dX8_end_18 : decode cX8_end 18 = .ok (.athrow, 1) := by decide +kernel
theorem dX8_end_19 : decode cX8_end 19 = .ok (.iload_n 1, 1) := by decide +kernel
theorem dX8_end_20 : decode cX8_end 20 = .ok (.ifCond .ne 13, 3) := by decide +kernel
theorem dX8_end_23 : decode cX8_end 23 = .ok (.aload_n 0, 1) := by decide +kernel
theorem dX8_end_24 : decode cX8_end 24 = .ok (.getfield 23, 3) := by decide +kernel
theorem dX8_end_27 : decode cX8_end 27 = .ok (.invokevirtual 177, 3) := by decide +kernel
theorem dX8_end_30 : decode cX8_end 30 = .ok (.goto 10, 3) := by decide +kernel
theorem dX8_end_33 : decode cX8_end 33 = .ok (.aload_n 0, 1) := by decide +kernel
theorem dX8_end_34 : decode cX8_end 34 = .ok (.getfield 23, 3) := by decide +kernel
theorem dX8_end_37 : decode cX8_end 37 = .ok (.invokevirtual 105, 3) := by decide +kernel
theorem dX8_end_40 : decode cX8_end 40 = .ok (.ireturn, 1) := by decide +kernel
theorem dX8_rest_0 : decode cX8_rest 0 = .ok (.iload_n 1, 1) := by decide +kernel
theorem dX8_rest_1 : decode cX8_rest 1 = .ok (.ifCond .lt 9, 3) := by decide +kernel
theorem dX8_rest_4 : decode cX8_rest 4 = .ok (.iload_n 1, 1) := by decide +kernel
theorem dX8_rest_5 : decode cX8_rest 5 = .ok (.bipush 19, 2) := by decide +kernel
theorem dX8_rest_7 : decode cX8_rest 7 = .ok (.if_icmp .lt 13, 3) := by decide +kernel
theorem dX8_rest_10 : decode cX8_rest 10 = .ok (.new 72, 3) := by decide +kernel
theorem dX8_rest_13 : decode cX8_rest 13 = .ok (.dup, 1) := by decide +kernel
theorem dX8_rest_14 : decode cX8_rest 14 = .ok (.ldc 180, 2) := by decide +kernel
theorem dX8_rest_16 : decode cX8_rest 16 = .ok (.invokespecial 76, 3) := by decide +kernel
theorem dX8_rest_19 : decode cX8_rest 19 = .ok (.athrow, 1) := by decide +kernel
theorem dX8_rest_20 : decode cX8_rest 20 = .ok (.aload_n 0, 1) := by decide +kernel
theorem dX8_rest_21 : decode cX8_rest 21 = .ok (.getfield 30, 3) := by decide +kernel
theorem dX8_rest_24 : decode cX8_rest 24 = .ok (.aload_n 0, 1) := by decide +kernel
theorem dX8_rest_25 : decode cX8_rest 25 = .ok (.getfield 23, 3) := by decide +kernel
theorem dX8_rest_28 : decode cX8_rest 28 = .ok (.iconst 1, 1) := by decide +kernel
theorem dX8_rest_29 : decode cX8_rest 29 = .ok (.invokevirtual 182, 3) := by decide +kernel
theorem dX8_rest_32 : decode cX8_rest 32 = .ok (.aload_n 0, 1) := by decide +kernel
theorem dX8_rest_33 : decode cX8_rest 33 = .ok (.getfield 30, 3) := by decide +kernel
theorem dX8_rest_36 : decode cX8_rest 36 = .ok (.aload_n 0, 1) := by decide +kernel
theorem dX8_rest_37 : decode cX8_rest 37 = .ok (.getfield 57, 3) := by decide +kernel
theorem dX8_rest_40 : decode cX8_rest 40 = .ok (.iload_n 1, 1) := by decide +kernel
theorem dX8_rest_41 : decode cX8_rest 41 = .ok (.invokevirtual 186, 3) := by decide +kernel
theorem dX8_rest_44 : decode cX8_rest 44 = .ok (.ireturn, 1) := by decide +kernel
theorem dX8_put_0 : decode cX8_put 0 = .ok (.iload_n 1, 1) := by decide +kernel
theorem dX8_put_1 : decode cX8_put 1 = .ok (.invokestatic 129, 3) := by decide +kernel
theorem dX8_put_4 : decode cX8_put 4 = .ok (.iload_n 2, 1) := by decide +kernel
theorem dX8_put_5 : decode cX8_put 5 = .ok (.i2l, 1) := by decide +kernel
theorem dX8_put_6 : decode cX8_put 6 = .ok (.invokestatic 77, 3) := by decide +kernel
theorem dX8_put_9 : decode cX8_put 9 = .ok (.istore_n 3, 1) := by decide +kernel
theorem dX8_put_10 : decode cX8_put 10 = .ok (.aload_n 0, 1) := by decide +kernel
theorem dX8_put_11 : decode cX8_put 11 = .ok (.getfield 57, 3) := by decide +kernel
theorem dX8_put_14 : decode cX8_put 14 = .ok (.iload_n 1, 1) := by decide +kernel
theorem dX8_put_15 : decode cX8_put 15 = .ok (.iaload, 1) := by decide +kernel
theorem dX8_put_16 : decode cX8_put 16 = .ok (.iload_n 3, 1) := by decide +kernel
theorem dX8_put_17 : decode cX8_put 17 = .ok (.if_icmp .eq 7, 3) := by decide +kernel
theorem dX8_put_20 : decode cX8_put 20 = .ok (.iconst 1, 1) := by decide +kernel
theorem dX8_put_21 : decode cX8_put 21 = .ok (.goto 4, 3) := by decide +kernel
theorem dX8_put_24 : decode cX8_put 24 = .ok (.iconst 0, 1) := by decide +kernel
theorem dX8_put_25 : decode cX8_put 25 = .ok (.istore 4, 2) := by decide +kernel
theorem dX8_put_27 : decode cX8_put 27 = .ok (.aload_n 0, 1) := by decide +kernel
theorem dX8_put_28 : decode cX8_put 28 = .ok (.getfield 57, 3) := by decide +kernel
theorem dX8_put_31 : decode cX8_put 31 = .ok (.iload_n 1, 1) := by decide +kernel
theorem dX8_put_32 : decode cX8_put 32 = .ok (.iload_n 3, 1) := by decide +kernel
theorem dX8_put_33 : decode cX8_put 33 = .ok (.iastore, 1) := by decide +kernel
theorem dX8_put_34 : decode cX8_put 34 = .ok (.iload 4, 2) := by decide +kernel
theorem dX8_put_36 : decode cX8_put 36 = .ok (.ireturn, 1) := by decide +kernel
theorem dX8_clear_0 : decode cX8_clear 0 = .ok (.aload_n 0, 1) := by decide +kernel
theorem dX8_clear_1 : decode cX8_clear 1 = .ok (.getfield 23, 3) := by decide +kernel
theorem dX8_clear_4 : decode cX8_clear 4 = .ok (.invokevirtual 190, 3) := by decide +kernel
theorem dX8_clear_7 : decode cX8_clear 7 = .ok (.aload_n 0, 1) := by decide +kernel
theorem dX8_clear_8 : decode cX8_clear 8 = .ok (.getfield 46, 3) := by decide +kernel
theorem dX8_clear_11 : decode cX8_clear 11 = .ok (.invokevirtual 193, 3) := by decide +kernel
theorem dX8_clear_14 : decode cX8_clear 14 = .ok (.iconst 0, 1) := by decide +kernel
theorem dX8_clear_15 : decode cX8_clear 15 = .ok (.istore_n 1, 1) := by decide +kernel
theorem dX8_clear_16 : decode cX8_clear 16 = .ok (.iload_n 1, 1) := by decide +kernel
theorem dX8_clear_17 : decode cX8_clear 17 = .ok (.bipush 13, 2) := by decide +kernel
theorem dX8_clear_19 : decode cX8_clear 19 = .ok (.if_icmp .ge 16, 3) := by decide +kernel
theorem dX8_clear_22 : decode cX8_clear 22 = .ok (.aload_n 0, 1) := by decide +kernel
theorem dX8_clear_23 : decode cX8_clear 23 = .ok (.getfield 57, 3) := by decide +kernel
theorem dX8_clear_26 : decode cX8_clear 26 = .ok (.iload_n 1, 1) := by decide +kernel
theorem dX8_clear_27 : decode cX8_clear 27 = .ok (.iconst 0, 1) := by decide +kernel
theorem dX8_clear_28 : decode cX8_clear 28 = .ok (.iastore, 1) := by decide +kernel
theorem dX8_clear_29 : decode cX8_clear 29 = .ok (.iinc 1 1, 3) := by decide +kernel
theorem dX8_clear_32 : decode cX8_clear 32 = .ok (.goto (-16), 3) := by decide +kernel
theorem dX8_clear_35 : decode cX8_clear 35 = .ok (.aload_n 0, 1) := by decide +kernel
theorem dX8_clear_36 : decode cX8_clear 36 = .ok (.invokevirtual 194, 3) := by decide +kernel
theorem dX8_clear_39 : decode cX8_clear 39 = .ok (.return_, 1) := by decide +kernel
theorem dX8_change_0 : decode cX8_change 0 = .ok (.iload_n 2, 1) := by decide +kernel
theorem dX8_change_1 : decode cX8_change 1 = .ok (.ifCond .lt 16, 3) := by decide +kernel
theorem dX8_change_4 : decode cX8_change 4 = .ok (.iload_n 2, 1) := by decide +kernel
theorem dX8_change_5 : decode cX8_change 5 = .ok (.aload_n 1, 1) := by decide +kernel
theorem dX8_change_6 : decode cX8_change 6 = .ok (.arraylength, 1) := by decide +kernel
theorem dX8_change_7 : decode cX8_change 7 = .ok (.if_icmp .ge 10, 3) := by decide +kernel
theorem dX8_change_10 : decode cX8_change 10 = .ok (.aload_n 1, 1) := by decide +kernel
theorem dX8_change_11 : decode cX8_change 11 = .ok (.iload_n 2, 1) := by decide +kernel
theorem dX8_change_12 : decode cX8_change 12 = .ok (.iaload, 1) := by decide +kernel
theorem dX8_change_13 : decode cX8_change 13 = .ok (.iload_n 3, 1) := by decide +kernel
theorem dX8_change_14 : decode cX8_change 14 = .ok (.if_icmp .ne 5, 3) := by decide +kernel
theorem dX8_change_17 : decode cX8_change 17 = .ok (.iconst 0, 1) := by decide +kernel
theorem dX8_change_18 : decode cX8_change 18 = .ok (.ireturn, 1) := by decide +kernel
theorem dX8_change_19 : decode cX8_change 19 = .ok (.aload_n 1, 1) := by decide +kernel
theorem dX8_change_20 : decode cX8_change 20 = .ok (.iload_n 2, 1) := by decide +kernel
theorem dX8_change_21 : decode cX8_change 21 = .ok (.iload_n 3, 1) := by decide +kernel
theorem dX8_change_22 : decode cX8_change 22 = .ok (.iastore, 1) := by decide +kernel
theorem dX8_change_23 : decode cX8_change 23 = .ok (.aload_n 0, 1) := by decide +kernel
theorem dX8_change_24 : decode cX8_change 24 = .ok (.invokevirtual 194, 3) := by decide +kernel
theorem dX8_change_27 : decode cX8_change 27 = .ok (.iconst 1, 1) := by decide +kernel
theorem dX8_change_28 : decode cX8_change 28 = .ok (.ireturn, 1) := by decide +kernel
theorem dX8_forgetConclusions_0 : decode cX8_forgetConclusions 0 = .ok (.aload_n 0, 1) := by decide +kernel
theorem dX8_forgetConclusions_1 : decode cX8_forgetConclusions 1 = .ok (.getfield 39, 3) := by decide +kernel
theorem dX8_forgetConclusions_4 : decode cX8_forgetConclusions 4 = .ok (.iconst 0, 1) := by decide +kernel
theorem dX8_forgetConclusions_5 : decode cX8_forgetConclusions 5 = .ok (.putfield 109, 3) := by decide +kernel
theorem dX8_forgetConclusions_8 : decode cX8_forgetConclusions 8 = .ok (.aload_n 0, 1) := by decide +kernel
theorem dX8_forgetConclusions_9 : decode cX8_forgetConclusions 9 = .ok (.getfield 46, 3) := by decide +kernel
theorem dX8_forgetConclusions_12 : decode cX8_forgetConclusions 12 = .ok (.invokevirtual 197, 3) := by decide +kernel
theorem dX8_forgetConclusions_15 : decode cX8_forgetConclusions 15 = .ok (.aload_n 0, 1) := by decide +kernel
theorem dX8_forgetConclusions_16 : decode cX8_forgetConclusions 16 = .ok (.iconst 0, 1) := by decide +kernel
theorem dX8_forgetConclusions_17 : decode cX8_forgetConclusions 17 = .ok (.putfield 166, 3) := by decide +kernel
theorem dX8_forgetConclusions_20 : decode cX8_forgetConclusions 20 = .ok (.return_, 1) := by decide +kernel
theorem dX8_requireAnswers_0 : decode cX8_requireAnswers 0 = .ok (.aload_n 0, 1) := by decide +kernel
theorem dX8_requireAnswers_1 : decode cX8_requireAnswers 1 = .ok (.getfield 39, 3) := by decide +kernel
theorem dX8_requireAnswers_4 : decode cX8_requireAnswers 4 = .ok (.getfield 109, 3) := by decide +kernel
theorem dX8_requireAnswers_7 : decode cX8_requireAnswers 7 = .ok (.ifCond .ne 13, 3) := by decide +kernel
theorem dX8_requireAnswers_10 : decode cX8_requireAnswers 10 = .ok (.new 198, 3) := by decide +kernel
theorem dX8_requireAnswers_13 : decode cX8_requireAnswers 13 = .ok (.dup, 1) := by decide +kernel
theorem dX8_requireAnswers_14 : decode cX8_requireAnswers 14 = .ok (.ldc 200, 2) := by decide +kernel
theorem dX8_requireAnswers_16 : decode cX8_requireAnswers 16 = .ok (.invokespecial 202, 3) := by decide +kernel
theorem dX8_requireAnswers_19 : decode cX8_requireAnswers 19 = .ok (.athrow, 1) := by decide +kernel
theorem dX8_requireAnswers_20 : decode cX8_requireAnswers 20 = .ok (.return_, 1) := by decide +kernel
theorem dX8_requireAnswerPower_0 : decode cX8_requireAnswerPower 0 = .ok (.iload_n 0, 1) := by decide +kernel
theorem dX8_requireAnswerPower_1 : decode cX8_requireAnswerPower 1 = .ok (.ifCond .lt 9, 3) := by decide +kernel
theorem dX8_requireAnswerPower_4 : decode cX8_requireAnswerPower 4 = .ok (.iload_n 0, 1) := by decide +kernel
theorem dX8_requireAnswerPower_5 : decode cX8_requireAnswerPower 5 = .ok (.bipush 13, 2) := by decide +kernel
theorem dX8_requireAnswerPower_7 : decode cX8_requireAnswerPower 7 = .ok (.if_icmp .lt 13, 3) := by decide +kernel
theorem dX8_requireAnswerPower_10 : decode cX8_requireAnswerPower 10 = .ok (.new 72, 3) := by decide +kernel
theorem dX8_requireAnswerPower_13 : decode cX8_requireAnswerPower 13 = .ok (.dup, 1) := by decide +kernel
theorem dX8_requireAnswerPower_14 : decode cX8_requireAnswerPower 14 = .ok (.ldc 203, 2) := by decide +kernel
theorem dX8_requireAnswerPower_16 : decode cX8_requireAnswerPower 16 = .ok (.invokespecial 76, 3) := by decide +kernel
theorem dX8_requireAnswerPower_19 : decode cX8_requireAnswerPower 19 = .ok (.athrow, 1) := by decide +kernel
theorem dX8_requireAnswerPower_20 : decode cX8_requireAnswerPower 20 = .ok (.return_, 1) := by decide +kernel
theorem dX9_init_0 : decode cX9_init 0 = .ok (.aload_n 0, 1) := by decide +kernel
theorem dX9_init_1 : decode cX9_init 1 = .ok (.invokespecial 1, 3) := by decide +kernel
theorem dX9_init_4 : decode cX9_init 4 = .ok (.aload_n 0, 1) := by decide +kernel
theorem dX9_init_5 : decode cX9_init 5 = .ok (.iconst 0, 1) := by decide +kernel
theorem dX9_init_6 : decode cX9_init 6 = .ok (.putfield 7, 3) := by decide +kernel
theorem dX9_init_9 : decode cX9_init 9 = .ok (.aload_n 0, 1) := by decide +kernel
theorem dX9_init_10 : decode cX9_init 10 = .ok (.bipush 35, 2) := by decide +kernel
theorem dX9_init_12 : decode cX9_init 12 = .ok (.newarray .int, 2) := by decide +kernel
theorem dX9_init_14 : decode cX9_init 14 = .ok (.putfield 13, 3) := by decide +kernel
theorem dX9_init_17 : decode cX9_init 17 = .ok (.aload_n 0, 1) := by decide +kernel
theorem dX9_init_18 : decode cX9_init 18 = .ok (.bipush 11, 2) := by decide +kernel
theorem dX9_init_20 : decode cX9_init 20 = .ok (.newarray .int, 2) := by decide +kernel
theorem dX9_init_22 : decode cX9_init 22 = .ok (.putfield 17, 3) := by decide +kernel
theorem dX9_init_25 : decode cX9_init 25 = .ok (.aload_n 0, 1) := by decide +kernel
theorem dX9_init_26 : decode cX9_init 26 = .ok (.bipush 12, 2) := by decide +kernel
theorem dX9_init_28 : decode cX9_init 28 = .ok (.newarray .int, 2) := by decide +kernel
theorem dX9_init_30 : decode cX9_init 30 = .ok (.putfield 20, 3) := by decide +kernel
theorem dX9_init_33 : decode cX9_init 33 = .ok (.aload_n 0, 1) := by decide +kernel
theorem dX9_init_34 : decode cX9_init 34 = .ok (.iconst 0, 1) := by decide +kernel
theorem dX9_init_35 : decode cX9_init 35 = .ok (.putfield 23, 3) := by decide +kernel
theorem dX9_init_38 : decode cX9_init 38 = .ok (.aload_n 0, 1) := by decide +kernel
theorem dX9_init_39 : decode cX9_init 39 = .ok (.bipush 13, 2) := by decide +kernel
theorem dX9_init_41 : decode cX9_init 41 = .ok (.newarray .int, 2) := by decide +kernel
theorem dX9_init_43 : decode cX9_init 43 = .ok (.putfield 26, 3) := by decide +kernel
theorem dX9_init_46 : decode cX9_init 46 = .ok (.aload_n 0, 1) := by decide +kernel
theorem dX9_init_47 : decode cX9_init 47 = .ok (.sipush 320, 3) := by decide +kernel
theorem dX9_init_50 : decode cX9_init 50 = .ok (.newarray .int, 2) := by decide +kernel
theorem dX9_init_52 : decode cX9_init 52 = .ok (.putfield 29, 3) := by decide +kernel
theorem dX9_init_55 : decode cX9_init 55 = .ok (.aload_n 0, 1) := by decide +kernel
theorem dX9_init_56 : decode cX9_init 56 = .ok (.iconst 0, 1) := by decide +kernel
theorem dX9_init_57 : decode cX9_init 57 = .ok (.putfield 32, 3) := by decide +kernel
theorem dX9_init_60 : decode cX9_init 60 = .ok (.aload_n 0, 1) := by decide +kernel
theorem dX9_init_61 : decode cX9_init 61 = .ok (.iconst 0, 1) := by decide +kernel
theorem dX9_init_62 : decode cX9_init 62 = .ok (.putfield 36, 3) := by decide +kernel
theorem dX9_init_65 : decode cX9_init 65 = .ok (.aload_n 0, 1) := by decide +kernel
theorem dX9_init_66 : decode cX9_init 66 = .ok (.sipush 169, 3) := by decide +kernel
theorem dX9_init_69 : decode cX9_init 69 = .ok (.newarray .int, 2) := by decide +kernel
theorem dX9_init_71 : decode cX9_init 71 = .ok (.putfield 39, 3) := by decide +kernel
theorem dX9_init_74 : decode cX9_init 74 = .ok (.aload_n 0, 1) := by decide +kernel
theorem dX9_init_75 : decode cX9_init 75 = .ok (.iconst 0, 1) := by decide +kernel
theorem dX9_init_76 : decode cX9_init 76 = .ok (.putfield 42, 3) := by decide +kernel
theorem dX9_init_79 : decode cX9_init 79 = .ok (.aload_n 0, 1) := by decide +kernel
theorem dX9_init_80 : decode cX9_init 80 = .ok (.bipush 13, 2) := by decide +kernel
theorem dX9_init_82 : decode cX9_init 82 = .ok (.newarray .int, 2) := by decide +kernel
theorem dX9_init_84 : decode cX9_init 84 = .ok (.putfield 45, 3) := by decide +kernel
theorem dX9_init_87 : decode cX9_init 87 = .ok (.aload_n 0, 1) := by decide +kernel
theorem dX9_init_88 : decode cX9_init 88 = .ok (.iconst 0, 1) := by decide +kernel
theorem dX9_init_89 : decode cX9_init 89 = .ok (.putfield 48, 3) := by decide +kernel
theorem dX9_init_92 : decode cX9_init 92 = .ok (.aload_n 0, 1) := by decide +kernel
theorem dX9_init_93 : decode cX9_init 93 = .ok (.bipush 8, 2) := by decide +kernel
theorem dX9_init_95 : decode cX9_init 95 = .ok (.newarray .int, 2) := by decide +kernel
theorem dX9_init_97 : decode cX9_init 97 = .ok (.putfield 51, 3) := by decide +kernel
theorem dX9_init_100 : decode cX9_init 100 = .ok (.aload_n 0, 1) := by decide +kernel
theorem dX9_init_101 : decode cX9_init 101 = .ok (.bipush 8, 2) := by decide +kernel
theorem dX9_init_103 : decode cX9_init 103 = .ok (.newarray .int, 2) := by decide +kernel
theorem dX9_init_105 : decode cX9_init 105 = .ok (.putfield 54, 3) := by decide +kernel
theorem dX9_init_108 : decode cX9_init 108 = .ok (.aload_n 0, 1) := by decide +kernel
theorem dX9_init_109 : decode cX9_init 109 = .ok (.sipush 1352, 3) := by decide +kernel
theorem dX9_init_112 : decode cX9_init 112 = .ok (.newarray .int, 2) := by decide +kernel
theorem dX9_init_114 : decode cX9_init 114 = .ok (.putfield 57, 3) := by decide +kernel
theorem dX9_init_117 : decode cX9_init 117 = .ok (.aload_n 0, 1) := by decide +kernel
theorem dX9_init_118 : decode cX9_init 118 = .ok (.sipush 266, 3) := by decide +kernel
theorem dX9_init_121 : decode cX9_init 121 = .ok (.newarray .int, 2) := by decide +kernel
theorem dX9_init_123 : decode cX9_init 123 = .ok (.putfield 60, 3) := by decide +kernel
theorem dX9_init_126 : decode cX9_init 126 = .ok (.aload_n 0, 1) := by decide +kernel
theorem dX9_init_127 : decode cX9_init 127 = .ok (.bipush 19, 2) := by decide +kernel
theorem dX9_init_129 : decode cX9_init 129 = .ok (.newarray .int, 2) := by decide +kernel
theorem dX9_init_131 : decode cX9_init 131 = .ok (.putfield 63, 3) := by decide +kernel
theorem dX9_init_134 : decode cX9_init 134 = .ok (.aload_n 0, 1) := by decide +kernel
theorem dX9_init_135 : decode cX9_init 135 = .ok (.bipush 13, 2) := by decide +kernel
theorem dX9_init_137 : decode cX9_init 137 = .ok (.newarray .int, 2) := by decide +kernel
theorem dX9_init_139 : decode cX9_init 139 = .ok (.putfield 66, 3) := by decide +kernel
theorem dX9_init_142 : decode cX9_init 142 = .ok (.aload_n 0, 1) := by decide +kernel
theorem dX9_init_143 : decode cX9_init 143 = .ok (.bipush 13, 2) := by decide +kernel
theorem dX9_init_145 : decode cX9_init 145 = .ok (.newarray .int, 2) := by decide +kernel
theorem dX9_init_147 : decode cX9_init 147 = .ok (.putfield 69, 3) := by decide +kernel
theorem dX9_init_150 : decode cX9_init 150 = .ok (.aload_n 0, 1) := by decide +kernel
theorem dX9_init_151 : decode cX9_init 151 = .ok (.bipush 13, 2) := by decide +kernel
theorem dX9_init_153 : decode cX9_init 153 = .ok (.newarray .int, 2) := by decide +kernel
theorem dX9_init_155 : decode cX9_init 155 = .ok (.putfield 72, 3) := by decide +kernel
theorem dX9_init_158 : decode cX9_init 158 = .ok (.aload_n 0, 1) := by decide +kernel
theorem dX9_init_159 : decode cX9_init 159 = .ok (.iload_n 1, 1) := by decide +kernel
theorem dX9_init_160 : decode cX9_init 160 = .ok (.iconst 1, 1) := by decide +kernel
theorem dX9_init_161 : decode cX9_init 161 = .ok (.if_icmp .ge 7, 3) := by decide +kernel
theorem dX9_init_164 : decode cX9_init 164 = .ok (.iconst 1, 1) := by decide +kernel
theorem dX9_init_165 : decode cX9_init 165 = .ok (.goto 13, 3) := by decide +kernel
theorem dX9_init_168 : decode cX9_init 168 = .ok (.iload_n 1, 1) := by decide +kernel
theorem dX9_init_169 : decode cX9_init 169 = .ok (.iconst 4, 1) := by decide +kernel
theorem dX9_init_170 : decode cX9_init 170 = .ok (.if_icmp .le 7, 3) := by decide +kernel
theorem dX9_init_173 : decode cX9_init 173 = .ok (.iconst 4, 1) := by decide +kernel
theorem dX9_init_174 : decode cX9_init 174 = .ok (.goto 4, 3) := by decide +kernel
theorem dX9_init_177 : decode cX9_init 177 = .ok (.iload_n 1, 1) := by decide +kernel
theorem dX9_init_178 : decode cX9_init 178 = .ok (.putfield 75, 3) := by decide +kernel
theorem dX9_init_181 : decode cX9_init 181 = .ok (.return_, 1) := by decide +kernel
theorem dX9_power_0 : decode cX9_power 0 = .ok (.lconst 1, 1) := by decide +kernel
theorem dX9_power_1 : decode cX9_power 1 = .ok (.lstore_n 2, 1) := by decide +kernel
theorem dX9_power_2 : decode cX9_power 2 = .ok (.iconst 0, 1) := by decide +kernel
theorem dX9_power_3 : decode cX9_power 3 = .ok (.istore 4, 2) := by decide +kernel
theorem dX9_power_5 : decode cX9_power 5 = .ok (.iload 4, 2) := by decide +kernel
theorem dX9_power_7 : decode cX9_power 7 = .ok (.iload_n 1, 1) := by decide +kernel
theorem dX9_power_8 : decode cX9_power 8 = .ok (.if_icmp .ge 18, 3) := by decide +kernel
theorem dX9_power_11 : decode cX9_power 11 = .ok (.lload_n 2, 1) := by decide +kernel
theorem dX9_power_12 : decode cX9_power 12 = .ok (.iload_n 0, 1) := by decide +kernel
theorem dX9_power_13 : decode cX9_power 13 = .ok (.i2l, 1) := by decide +kernel
theorem dX9_power_14 : decode cX9_power 14 = .ok (.lmul, 1) := by decide +kernel
theorem dX9_power_15 : decode cX9_power 15 = .ok (.ldc2_w 78, 3) := by decide +kernel
theorem dX9_power_18 : decode cX9_power 18 = .ok (.lrem, 1) := by decide +kernel
theorem dX9_power_19 : decode cX9_power 19 = .ok (.lstore_n 2, 1) := by decide +kernel
theorem dX9_power_20 : decode cX9_power 20 = .ok (.iinc 4 1, 3) := by decide +kernel
theorem dX9_power_23 : decode cX9_power 23 = .ok (.goto (-18), 3) := by decide +kernel
theorem dX9_power_26 : decode cX9_power 26 = .ok (.lload_n 2, 1) := by decide +kernel
theorem dX9_power_27 : decode cX9_power 27 = .ok (.l2i, 1) := by decide +kernel
theorem dX9_power_28 : decode cX9_power 28 = .ok (.ireturn, 1) := by decide +kernel
theorem dX9_inverse_0 : decode cX9_inverse 0 = .ok (.lconst 1, 1) := by decide +kernel
theorem dX9_inverse_1 : decode cX9_inverse 1 = .ok (.lstore_n 1, 1) := by decide +kernel
theorem dX9_inverse_2 : decode cX9_inverse 2 = .ok (.iload_n 0, 1) := by decide +kernel
theorem dX9_inverse_3 : decode cX9_inverse 3 = .ok (.i2l, 1) := by decide +kernel
theorem dX9_inverse_4 : decode cX9_inverse 4 = .ok (.lstore_n 3, 1) := by decide +kernel
theorem dX9_inverse_5 : decode cX9_inverse 5 = .ok (.sipush 32001, 3) := by decide +kernel
theorem dX9_inverse_8 : decode cX9_inverse 8 = .ok (.istore 5, 2) := by decide +kernel
theorem dX9_inverse_10 : decode cX9_inverse 10 = .ok (.iload 5, 2) := by decide +kernel
theorem dX9_inverse_12 : decode cX9_inverse 12 = .ok (.ifCond .le 36, 3) := by decide +kernel
theorem dX9_inverse_15 : decode cX9_inverse 15 = .ok (.iload 5, 2) := by decide +kernel
theorem dX9_inverse_17 : decode cX9_inverse 17 = .ok (.iconst 2, 1) := by decide +kernel
theorem dX9_inverse_18 : decode cX9_inverse 18 = .ok (.irem, 1) := by decide +kernel
theorem dX9_inverse_19 : decode cX9_inverse 19 = .ok (.iconst 1, 1) := by decide +kernel
theorem dX9_inverse_20 : decode cX9_inverse 20 = .ok (.if_icmp .ne 11, 3) := by decide +kernel
theorem dX9_inverse_23 : decode cX9_inverse 23 = .ok (.lload_n 1, 1) := by decide +kernel
theorem dX9_inverse_24 : decode cX9_inverse 24 = .ok (.lload_n 3, 1) := by decide +kernel
theorem dX9_inverse_25 : decode cX9_inverse 25 = .ok (.lmul, 1) := by decide +kernel
theorem dX9_inverse_26 : decode cX9_inverse 26 = .ok (.ldc2_w 78, 3) := by decide +kernel
theorem dX9_inverse_29 : decode cX9_inverse 29 = .ok (.lrem, 1) := by decide +kernel
theorem dX9_inverse_30 : decode cX9_inverse 30 = .ok (.lstore_n 1, 1) := by decide +kernel
theorem dX9_inverse_31 : decode cX9_inverse 31 = .ok (.lload_n 3, 1) := by decide +kernel
theorem dX9_inverse_32 : decode cX9_inverse 32 = .ok (.lload_n 3, 1) := by decide +kernel
theorem dX9_inverse_33 : decode cX9_inverse 33 = .ok (.lmul, 1) := by decide +kernel
theorem dX9_inverse_34 : decode cX9_inverse 34 = .ok (.ldc2_w 78, 3) := by decide +kernel
theorem dX9_inverse_37 : decode cX9_inverse 37 = .ok (.lrem, 1) := by decide +kernel
theorem dX9_inverse_38 : decode cX9_inverse 38 = .ok (.lstore_n 3, 1) := by decide +kernel
theorem dX9_inverse_39 : decode cX9_inverse 39 = .ok (.iload 5, 2) := by decide +kernel
theorem dX9_inverse_41 : decode cX9_inverse 41 = .ok (.iconst 2, 1) := by decide +kernel
theorem dX9_inverse_42 : decode cX9_inverse 42 = .ok (.idiv, 1) := by decide +kernel
theorem dX9_inverse_43 : decode cX9_inverse 43 = .ok (.istore 5, 2) := by decide +kernel
theorem dX9_inverse_45 : decode cX9_inverse 45 = .ok (.goto (-35), 3) := by decide +kernel
theorem dX9_inverse_48 : decode cX9_inverse 48 = .ok (.lload_n 1, 1) := by decide +kernel
theorem dX9_inverse_49 : decode cX9_inverse 49 = .ok (.l2i, 1) := by decide +kernel
theorem dX9_inverse_50 : decode cX9_inverse 50 = .ok (.ireturn, 1) := by decide +kernel
theorem dX9_modulo_0 : decode cX9_modulo 0 = .ok (.lload_n 0, 1) := by decide +kernel
theorem dX9_modulo_1 : decode cX9_modulo 1 = .ok (.ldc2_w 78, 3) := by decide +kernel
theorem dX9_modulo_4 : decode cX9_modulo 4 = .ok (.lrem, 1) := by decide +kernel
theorem dX9_modulo_5 : decode cX9_modulo 5 = .ok (.lstore_n 2, 1) := by decide +kernel
theorem dX9_modulo_6 : decode cX9_modulo 6 = .ok (.lload_n 2, 1) := by decide +kernel
theorem dX9_modulo_7 : decode cX9_modulo 7 = .ok (.lconst 0, 1) := by decide +kernel
theorem dX9_modulo_8 : decode cX9_modulo 8 = .ok (.lcmp, 1) := by decide +kernel
theorem dX9_modulo_9 : decode cX9_modulo 9 = .ok (.ifCond .ge 11, 3) := by decide +kernel
theorem dX9_modulo_12 : decode cX9_modulo 12 = .ok (.lload_n 2, 1) := by decide +kernel
theorem dX9_modulo_13 : decode cX9_modulo 13 = .ok (.ldc2_w 78, 3) := by decide +kernel
theorem dX9_modulo_16 : decode cX9_modulo 16 = .ok (.ladd, 1) := by decide +kernel
theorem dX9_modulo_17 : decode cX9_modulo 17 = .ok (.goto 4, 3) := by decide +kernel
theorem dX9_modulo_20 : decode cX9_modulo 20 = .ok (.lload_n 2, 1) := by decide +kernel
theorem dX9_modulo_21 : decode cX9_modulo 21 = .ok (.l2i, 1) := by decide +kernel
theorem dX9_modulo_22 : decode cX9_modulo 22 = .ok (.ireturn, 1) := by decide +kernel
theorem dX9_at_0 : decode cX9_at 0 = .ok (.lconst 0, 1) := by decide +kernel
theorem dX9_at_1 : decode cX9_at 1 = .ok (.lstore 5, 2) := by decide +kernel
theorem dX9_at_3 : decode cX9_at 3 = .ok (.iload_n 3, 1) := by decide +kernel
theorem dX9_at_4 : decode cX9_at 4 = .ok (.iconst 1, 1) := by decide +kernel
theorem dX9_at_5 : decode cX9_at 5 = .ok (.isub, 1) := by decide +kernel
theorem dX9_at_6 : decode cX9_at 6 = .ok (.istore 7, 2) := by decide +kernel
theorem dX9_at_8 : decode cX9_at 8 = .ok (.iload 7, 2) := by decide +kernel
theorem dX9_at_10 : decode cX9_at 10 = .ok (.ifCond .lt 29, 3) := by decide +kernel
theorem dX9_at_13 : decode cX9_at 13 = .ok (.lload 5, 2) := by decide +kernel
theorem dX9_at_15 : decode cX9_at 15 = .ok (.iload 4, 2) := by decide +kernel
theorem dX9_at_17 : decode cX9_at 17 = .ok (.i2l, 1) := by decide +kernel
theorem dX9_at_18 : decode cX9_at 18 = .ok (.lmul, 1) := by decide +kernel
theorem dX9_at_19 : decode cX9_at 19 = .ok (.aload_n 1, 1) := by decide +kernel
theorem dX9_at_20 : decode cX9_at 20 = .ok (.iload_n 2, 1) := by decide +kernel
theorem dX9_at_21 : decode cX9_at 21 = .ok (.iload 7, 2) := by decide +kernel
theorem dX9_at_23 : decode cX9_at 23 = .ok (.iadd, 1) := by decide +kernel
theorem dX9_at_24 : decode cX9_at 24 = .ok (.iaload, 1) := by decide +kernel
theorem dX9_at_25 : decode cX9_at 25 = .ok (.i2l, 1) := by decide +kernel
theorem dX9_at_26 : decode cX9_at 26 = .ok (.ladd, 1) := by decide +kernel
theorem dX9_at_27 : decode cX9_at 27 = .ok (.ldc2_w 78, 3) := by decide +kernel
theorem dX9_at_30 : decode cX9_at 30 = .ok (.lrem, 1) := by decide +kernel
theorem dX9_at_31 : decode cX9_at 31 = .ok (.lstore 5, 2) := by decide +kernel
theorem dX9_at_33 : decode cX9_at 33 = .ok (.iinc 7 (-1), 3) := by decide +kernel
theorem dX9_at_36 : decode cX9_at 36 = .ok (.goto (-28), 3) := by decide +kernel
theorem dX9_at_39 : decode cX9_at 39 = .ok (.lload 5, 2) := by decide +kernel
theorem dX9_at_41 : decode cX9_at 41 = .ok (.l2i, 1) := by decide +kernel
theorem dX9_at_42 : decode cX9_at 42 = .ok (.ireturn, 1) := by decide +kernel
theorem dX9_apply_0 : decode cX9_apply 0 = .ok (.iconst 0, 1) := by decide +kernel
theorem dX9_apply_1 : decode cX9_apply 1 = .ok (.istore_n 3, 1) := by decide +kernel
theorem dX9_apply_2 : decode cX9_apply 2 = .ok (.iload_n 3, 1) := by decide +kernel
theorem dX9_apply_3 : decode cX9_apply 3 = .ok (.bipush 19, 2) := by decide +kernel
theorem dX9_apply_5 : decode cX9_apply 5 = .ok (.if_icmp .ge 16, 3) := by decide +kernel
theorem dX9_apply_8 : decode cX9_apply 8 = .ok (.aload_n 0, 1) := by decide +kernel
theorem dX9_apply_9 : decode cX9_apply 9 = .ok (.getfield 63, 3) := by decide +kernel
theorem dX9_apply_12 : decode cX9_apply 12 = .ok (.iload_n 3, 1) := by decide +kernel
theorem dX9_apply_13 : decode cX9_apply 13 = .ok (.iconst 0, 1) := by decide +kernel
theorem dX9_apply_14 : decode cX9_apply 14 = .ok (.iastore, 1) := by decide +kernel
theorem dX9_apply_15 : decode cX9_apply 15 = .ok (.iinc 3 1, 3) := by decide +kernel
theorem dX9_apply_18 : decode cX9_apply 18 = .ok (.goto (-16), 3) := by decide +kernel
theorem dX9_apply_21 : decode cX9_apply 21 = .ok (.iconst 0, 1) := by decide +kernel
theorem dX9_apply_22 : decode cX9_apply 22 = .ok (.istore_n 3, 1) := by decide +kernel
theorem dX9_apply_23 : decode cX9_apply 23 = .ok (.iload_n 3, 1) := by decide +kernel
theorem dX9_apply_24 : decode cX9_apply 24 = .ok (.aload_n 0, 1) := by decide +kernel
theorem dX9_apply_25 : decode cX9_apply 25 = .ok (.getfield 75, 3) := by decide +kernel
theorem dX9_apply_28 : decode cX9_apply 28 = .ok (.if_icmp .gt 115, 3) := by decide +kernel
theorem dX9_apply_31 : decode cX9_apply 31 = .ok (.aload_n 0, 1) := by decide +kernel
theorem dX9_apply_32 : decode cX9_apply 32 = .ok (.aload_n 1, 1) := by decide +kernel
theorem dX9_apply_33 : decode cX9_apply 33 = .ok (.iload_n 3, 1) := by decide +kernel
theorem dX9_apply_34 : decode cX9_apply 34 = .ok (.invokevirtual 80, 3) := by decide +kernel
theorem dX9_apply_37 : decode cX9_apply 37 = .ok (.iload_n 2, 1) := by decide +kernel
theorem dX9_apply_38 : decode cX9_apply 38 = .ok (.iload_n 3, 1) := by decide +kernel
theorem dX9_apply_39 : decode cX9_apply 39 = .ok (.invokestatic 84, 3) := by decide +kernel
theorem dX9_apply_42 : decode cX9_apply 42 = .ok (.i2l, 1) := by decide +kernel
theorem dX9_apply_43 : decode cX9_apply 43 = .ok (.lstore 4, 2) := by decide +kernel
theorem dX9_apply_45 : decode cX9_apply 45 = .ok (.iconst 0, 1) := by decide +kernel
theorem dX9_apply_46 : decode cX9_apply 46 = .ok (.istore 6, 2) := by decide +kernel
theorem dX9_apply_48 : decode cX9_apply 48 = .ok (.iload 6, 2) := by decide +kernel
theorem dX9_apply_50 : decode cX9_apply 50 = .ok (.bipush 7, 2) := by decide +kernel
theorem dX9_apply_52 : decode cX9_apply 52 = .ok (.if_icmp .ge 85, 3) := by decide +kernel
theorem dX9_apply_55 : decode cX9_apply 55 = .ok (.aload_n 0, 1) := by decide +kernel
theorem dX9_apply_56 : decode cX9_apply 56 = .ok (.getfield 13, 3) := by decide +kernel
theorem dX9_apply_59 : decode cX9_apply 59 = .ok (.bipush 7, 2) := by decide +kernel
theorem dX9_apply_61 : decode cX9_apply 61 = .ok (.iload_n 3, 1) := by decide +kernel
theorem dX9_apply_62 : decode cX9_apply 62 = .ok (.imul, 1) := by decide +kernel
theorem dX9_apply_63 : decode cX9_apply 63 = .ok (.iload 6, 2) := by decide +kernel
theorem dX9_apply_65 : decode cX9_apply 65 = .ok (.iadd, 1) := by decide +kernel
theorem dX9_apply_66 : decode cX9_apply 66 = .ok (.iaload, 1) := by decide +kernel
theorem dX9_apply_67 : decode cX9_apply 67 = .ok (.i2l, 1) := by decide +kernel
theorem dX9_apply_68 : decode cX9_apply 68 = .ok (.lload 4, 2) := by decide +kernel
theorem dX9_apply_70 : decode cX9_apply 70 = .ok (.lmul, 1) := by decide +kernel
theorem dX9_apply_71 : decode cX9_apply 71 = .ok (.ldc2_w 78, 3) := by decide +kernel
theorem dX9_apply_74 : decode cX9_apply 74 = .ok (.lrem, 1) := by decide +kernel
theorem dX9_apply_75 : decode cX9_apply 75 = .ok (.lstore 7, 2) := by decide +kernel
theorem dX9_apply_77 : decode cX9_apply 77 = .ok (.iconst 0, 1) := by decide +kernel
theorem dX9_apply_78 : decode cX9_apply 78 = .ok (.istore 9, 2) := by decide +kernel
theorem dX9_apply_80 : decode cX9_apply 80 = .ok (.iload 9, 2) := by decide +kernel
theorem dX9_apply_82 : decode cX9_apply 82 = .ok (.bipush 13, 2) := by decide +kernel
theorem dX9_apply_84 : decode cX9_apply 84 = .ok (.if_icmp .ge 47, 3) := by decide +kernel
theorem dX9_apply_87 : decode cX9_apply 87 = .ok (.aload_n 0, 1) := by decide +kernel
theorem dX9_apply_88 : decode cX9_apply 88 = .ok (.getfield 63, 3) := by decide +kernel
theorem dX9_apply_91 : decode cX9_apply 91 = .ok (.iload 6, 2) := by decide +kernel
theorem dX9_apply_93 : decode cX9_apply 93 = .ok (.iload 9, 2) := by decide +kernel
theorem dX9_apply_95 : decode cX9_apply 95 = .ok (.iadd, 1) := by decide +kernel
theorem dX9_apply_96 : decode cX9_apply 96 = .ok (.aload_n 0, 1) := by decide +kernel
theorem dX9_apply_97 : decode cX9_apply 97 = .ok (.getfield 63, 3) := by decide +kernel
theorem dX9_apply_100 : decode cX9_apply 100 = .ok (.iload 6, 2) := by decide +kernel
theorem dX9_apply_102 : decode cX9_apply 102 = .ok (.iload 9, 2) := by decide +kernel
theorem dX9_apply_104 : decode cX9_apply 104 = .ok (.iadd, 1) := by decide +kernel
theorem dX9_apply_105 : decode cX9_apply 105 = .ok (.iaload, 1) := by decide +kernel
theorem dX9_apply_106 : decode cX9_apply 106 = .ok (.i2l, 1) := by decide +kernel
theorem dX9_apply_107 : decode cX9_apply 107 = .ok (.lload 7, 2) := by decide +kernel
theorem dX9_apply_109 : decode cX9_apply 109 = .ok (.aload_n 0, 1) := by decide +kernel
theorem dX9_apply_110 : decode cX9_apply 110 = .ok (.getfield 66, 3) := by decide +kernel
theorem dX9_apply_113 : decode cX9_apply 113 = .ok (.iload 9, 2) := by decide +kernel
theorem dX9_apply_115 : decode cX9_apply 115 = .ok (.iaload, 1) := by decide +kernel
theorem dX9_apply_116 : decode cX9_apply 116 = .ok (.i2l, 1) := by decide +kernel
theorem dX9_apply_117 : decode cX9_apply 117 = .ok (.lmul, 1) := by decide +kernel
theorem dX9_apply_118 : decode cX9_apply 118 = .ok (.ladd, 1) := by decide +kernel
theorem dX9_apply_119 : decode cX9_apply 119 = .ok (.ldc2_w 78, 3) := by decide +kernel
theorem dX9_apply_122 : decode cX9_apply 122 = .ok (.lrem, 1) := by decide +kernel
theorem dX9_apply_123 : decode cX9_apply 123 = .ok (.l2i, 1) := by decide +kernel
theorem dX9_apply_124 : decode cX9_apply 124 = .ok (.iastore, 1) := by decide +kernel
theorem dX9_apply_125 : decode cX9_apply 125 = .ok (.iinc 9 1, 3) := by decide +kernel
theorem dX9_apply_128 : decode cX9_apply 128 = .ok (.goto (-48), 3) := by decide +kernel
theorem dX9_apply_131 : decode cX9_apply 131 = .ok (.iinc 6 1, 3) := by decide +kernel
theorem dX9_apply_134 : decode cX9_apply 134 = .ok (.goto (-86), 3) := by decide +kernel
theorem dX9_apply_137 : decode cX9_apply 137 = .ok (.iinc 3 1, 3) := by decide +kernel
theorem dX9_apply_140 : decode cX9_apply 140 = .ok (.goto (-117), 3) := by decide +kernel
end
section
theorem dX9_apply_143 : decode cX9_apply 143 = .ok (.return_, 1) := by decide +kernel
theorem dX9_shift_0 : decode cX9_shift 0 = .ok (.iconst 0, 1) := by decide +kernel
theorem dX9_shift_1 : decode cX9_shift 1 = .ok (.istore_n 3, 1) := by decide +kernel
theorem dX9_shift_2 : decode cX9_shift 2 = .ok (.iload_n 3, 1) := by decide +kernel
theorem dX9_shift_3 : decode cX9_shift 3 = .ok (.bipush 13, 2) := by decide +kernel
theorem dX9_shift_5 : decode cX9_shift 5 = .ok (.if_icmp .ge 16, 3) := by decide +kernel
theorem dX9_shift_8 : decode cX9_shift 8 = .ok (.aload_n 0, 1) := by decide +kernel
theorem dX9_shift_9 : decode cX9_shift 9 = .ok (.getfield 66, 3) := by decide +kernel
theorem dX9_shift_12 : decode cX9_shift 12 = .ok (.iload_n 3, 1) := by decide +kernel
theorem dX9_shift_13 : decode cX9_shift 13 = .ok (.iconst 0, 1) := by decide +kernel
theorem dX9_shift_14 : decode cX9_shift 14 = .ok (.iastore, 1) := by decide +kernel
theorem dX9_shift_15 : decode cX9_shift 15 = .ok (.iinc 3 1, 3) := by decide +kernel
theorem dX9_shift_18 : decode cX9_shift 18 = .ok (.goto (-16), 3) := by decide +kernel
theorem dX9_shift_21 : decode cX9_shift 21 = .ok (.bipush 12, 2) := by decide +kernel
theorem dX9_shift_23 : decode cX9_shift 23 = .ok (.istore_n 3, 1) := by decide +kernel
theorem dX9_shift_24 : decode cX9_shift 24 = .ok (.iload_n 3, 1) := by decide +kernel
theorem dX9_shift_25 : decode cX9_shift 25 = .ok (.ifCond .lt 84, 3) := by decide +kernel
theorem dX9_shift_28 : decode cX9_shift 28 = .ok (.bipush 12, 2) := by decide +kernel
theorem dX9_shift_30 : decode cX9_shift 30 = .ok (.istore 4, 2) := by decide +kernel
theorem dX9_shift_32 : decode cX9_shift 32 = .ok (.iload 4, 2) := by decide +kernel
theorem dX9_shift_34 : decode cX9_shift 34 = .ok (.ifCond .le 43, 3) := by decide +kernel
theorem dX9_shift_37 : decode cX9_shift 37 = .ok (.aload_n 0, 1) := by decide +kernel
theorem dX9_shift_38 : decode cX9_shift 38 = .ok (.getfield 66, 3) := by decide +kernel
theorem dX9_shift_41 : decode cX9_shift 41 = .ok (.iload 4, 2) := by decide +kernel
theorem dX9_shift_43 : decode cX9_shift 43 = .ok (.aload_n 0, 1) := by decide +kernel
theorem dX9_shift_44 : decode cX9_shift 44 = .ok (.getfield 66, 3) := by decide +kernel
theorem dX9_shift_47 : decode cX9_shift 47 = .ok (.iload 4, 2) := by decide +kernel
theorem dX9_shift_49 : decode cX9_shift 49 = .ok (.iconst 1, 1) := by decide +kernel
theorem dX9_shift_50 : decode cX9_shift 50 = .ok (.isub, 1) := by decide +kernel
theorem dX9_shift_51 : decode cX9_shift 51 = .ok (.iaload, 1) := by decide +kernel
theorem dX9_shift_52 : decode cX9_shift 52 = .ok (.i2l, 1) := by decide +kernel
theorem dX9_shift_53 : decode cX9_shift 53 = .ok (.iload_n 2, 1) := by decide +kernel
theorem dX9_shift_54 : decode cX9_shift 54 = .ok (.i2l, 1) := by decide +kernel
theorem dX9_shift_55 : decode cX9_shift 55 = .ok (.aload_n 0, 1) := by decide +kernel
theorem dX9_shift_56 : decode cX9_shift 56 = .ok (.getfield 66, 3) := by decide +kernel
theorem dX9_shift_59 : decode cX9_shift 59 = .ok (.iload 4, 2) := by decide +kernel
theorem dX9_shift_61 : decode cX9_shift 61 = .ok (.iaload, 1) := by decide +kernel
theorem dX9_shift_62 : decode cX9_shift 62 = .ok (.i2l, 1) := by decide +kernel
theorem dX9_shift_63 : decode cX9_shift 63 = .ok (.lmul, 1) := by decide +kernel
theorem dX9_shift_64 : decode cX9_shift 64 = .ok (.ladd, 1) := by decide +kernel
theorem dX9_shift_65 : decode cX9_shift 65 = .ok (.ldc2_w 78, 3) := by decide +kernel
theorem dX9_shift_68 : decode cX9_shift 68 = .ok (.lrem, 1) := by decide +kernel
theorem dX9_shift_69 : decode cX9_shift 69 = .ok (.l2i, 1) := by decide +kernel
theorem dX9_shift_70 : decode cX9_shift 70 = .ok (.iastore, 1) := by decide +kernel
theorem dX9_shift_71 : decode cX9_shift 71 = .ok (.iinc 4 (-1), 3) := by decide +kernel
theorem dX9_shift_74 : decode cX9_shift 74 = .ok (.goto (-42), 3) := by decide +kernel
theorem dX9_shift_77 : decode cX9_shift 77 = .ok (.aload_n 0, 1) := by decide +kernel
theorem dX9_shift_78 : decode cX9_shift 78 = .ok (.getfield 66, 3) := by decide +kernel
theorem dX9_shift_81 : decode cX9_shift 81 = .ok (.iconst 0, 1) := by decide +kernel
theorem dX9_shift_82 : decode cX9_shift 82 = .ok (.iload_n 2, 1) := by decide +kernel
theorem dX9_shift_83 : decode cX9_shift 83 = .ok (.i2l, 1) := by decide +kernel
theorem dX9_shift_84 : decode cX9_shift 84 = .ok (.aload_n 0, 1) := by decide +kernel
theorem dX9_shift_85 : decode cX9_shift 85 = .ok (.getfield 66, 3) := by decide +kernel
theorem dX9_shift_88 : decode cX9_shift 88 = .ok (.iconst 0, 1) := by decide +kernel
theorem dX9_shift_89 : decode cX9_shift 89 = .ok (.iaload, 1) := by decide +kernel
theorem dX9_shift_90 : decode cX9_shift 90 = .ok (.i2l, 1) := by decide +kernel
theorem dX9_shift_91 : decode cX9_shift 91 = .ok (.lmul, 1) := by decide +kernel
theorem dX9_shift_92 : decode cX9_shift 92 = .ok (.aload_n 1, 1) := by decide +kernel
theorem dX9_shift_93 : decode cX9_shift 93 = .ok (.iload_n 3, 1) := by decide +kernel
theorem dX9_shift_94 : decode cX9_shift 94 = .ok (.iaload, 1) := by decide +kernel
theorem dX9_shift_95 : decode cX9_shift 95 = .ok (.i2l, 1) := by decide +kernel
theorem dX9_shift_96 : decode cX9_shift 96 = .ok (.ladd, 1) := by decide +kernel
theorem dX9_shift_97 : decode cX9_shift 97 = .ok (.ldc2_w 78, 3) := by decide +kernel
theorem dX9_shift_100 : decode cX9_shift 100 = .ok (.lrem, 1) := by decide +kernel
theorem dX9_shift_101 : decode cX9_shift 101 = .ok (.l2i, 1) := by decide +kernel
theorem dX9_shift_102 : decode cX9_shift 102 = .ok (.iastore, 1) := by decide +kernel
theorem dX9_shift_103 : decode cX9_shift 103 = .ok (.iinc 3 (-1), 3) := by decide +kernel
theorem dX9_shift_106 : decode cX9_shift 106 = .ok (.goto (-82), 3) := by decide +kernel
theorem dX9_shift_109 : decode cX9_shift 109 = .ok (.return_, 1) := by decide +kernel
theorem dX9_fill_0 : decode cX9_fill 0 = .ok (.aload_n 0, 1) := by decide +kernel
theorem dX9_fill_1 : decode cX9_fill 1 = .ok (.getfield 72, 3) := by decide +kernel
theorem dX9_fill_4 : decode cX9_fill 4 = .ok (.astore_n 2, 1) := by decide +kernel
theorem dX9_fill_5 : decode cX9_fill 5 = .ok (.iconst 0, 1) := by decide +kernel
theorem dX9_fill_6 : decode cX9_fill 6 = .ok (.istore_n 3, 1) := by decide +kernel
theorem dX9_fill_7 : decode cX9_fill 7 = .ok (.iload_n 3, 1) := by decide +kernel
theorem dX9_fill_8 : decode cX9_fill 8 = .ok (.bipush 13, 2) := by decide +kernel
theorem dX9_fill_10 : decode cX9_fill 10 = .ok (.if_icmp .ge 84, 3) := by decide +kernel
theorem dX9_fill_13 : decode cX9_fill 13 = .ok (.iconst 0, 1) := by decide +kernel
theorem dX9_fill_14 : decode cX9_fill 14 = .ok (.istore 4, 2) := by decide +kernel
theorem dX9_fill_16 : decode cX9_fill 16 = .ok (.iload 4, 2) := by decide +kernel
theorem dX9_fill_18 : decode cX9_fill 18 = .ok (.bipush 13, 2) := by decide +kernel
theorem dX9_fill_20 : decode cX9_fill 20 = .ok (.if_icmp .ge 27, 3) := by decide +kernel
theorem dX9_fill_23 : decode cX9_fill 23 = .ok (.aload_n 2, 1) := by decide +kernel
theorem dX9_fill_24 : decode cX9_fill 24 = .ok (.iload 4, 2) := by decide +kernel
theorem dX9_fill_26 : decode cX9_fill 26 = .ok (.iload 4, 2) := by decide +kernel
theorem dX9_fill_28 : decode cX9_fill 28 = .ok (.bipush 12, 2) := by decide +kernel
theorem dX9_fill_30 : decode cX9_fill 30 = .ok (.iload_n 3, 1) := by decide +kernel
theorem dX9_fill_31 : decode cX9_fill 31 = .ok (.isub, 1) := by decide +kernel
theorem dX9_fill_32 : decode cX9_fill 32 = .ok (.if_icmp .ne 7, 3) := by decide +kernel
theorem dX9_fill_35 : decode cX9_fill 35 = .ok (.iconst 1, 1) := by decide +kernel
theorem dX9_fill_36 : decode cX9_fill 36 = .ok (.goto 4, 3) := by decide +kernel
theorem dX9_fill_39 : decode cX9_fill 39 = .ok (.iconst 0, 1) := by decide +kernel
theorem dX9_fill_40 : decode cX9_fill 40 = .ok (.iastore, 1) := by decide +kernel
theorem dX9_fill_41 : decode cX9_fill 41 = .ok (.iinc 4 1, 3) := by decide +kernel
theorem dX9_fill_44 : decode cX9_fill 44 = .ok (.goto (-28), 3) := by decide +kernel
theorem dX9_fill_47 : decode cX9_fill 47 = .ok (.aload_n 0, 1) := by decide +kernel
theorem dX9_fill_48 : decode cX9_fill 48 = .ok (.aload_n 2, 1) := by decide +kernel
theorem dX9_fill_49 : decode cX9_fill 49 = .ok (.iload_n 1, 1) := by decide +kernel
theorem dX9_fill_50 : decode cX9_fill 50 = .ok (.invokevirtual 88, 3) := by decide +kernel
theorem dX9_fill_53 : decode cX9_fill 53 = .ok (.iconst 0, 1) := by decide +kernel
theorem dX9_fill_54 : decode cX9_fill 54 = .ok (.istore 4, 2) := by decide +kernel
theorem dX9_fill_56 : decode cX9_fill 56 = .ok (.iload 4, 2) := by decide +kernel
theorem dX9_fill_58 : decode cX9_fill 58 = .ok (.bipush 19, 2) := by decide +kernel
theorem dX9_fill_60 : decode cX9_fill 60 = .ok (.if_icmp .ge 28, 3) := by decide +kernel
theorem dX9_fill_63 : decode cX9_fill 63 = .ok (.aload_n 0, 1) := by decide +kernel
theorem dX9_fill_64 : decode cX9_fill 64 = .ok (.getfield 60, 3) := by decide +kernel
theorem dX9_fill_67 : decode cX9_fill 67 = .ok (.bipush 14, 2) := by decide +kernel
theorem dX9_fill_69 : decode cX9_fill 69 = .ok (.iload 4, 2) := by decide +kernel
theorem dX9_fill_71 : decode cX9_fill 71 = .ok (.imul, 1) := by decide +kernel
theorem dX9_fill_72 : decode cX9_fill 72 = .ok (.iload_n 3, 1) := by decide +kernel
theorem dX9_fill_73 : decode cX9_fill 73 = .ok (.iadd, 1) := by decide +kernel
theorem dX9_fill_74 : decode cX9_fill 74 = .ok (.aload_n 0, 1) := by decide +kernel
theorem dX9_fill_75 : decode cX9_fill 75 = .ok (.getfield 63, 3) := by decide +kernel
theorem dX9_fill_78 : decode cX9_fill 78 = .ok (.iload 4, 2) := by decide +kernel
theorem dX9_fill_80 : decode cX9_fill 80 = .ok (.iaload, 1) := by decide +kernel
theorem dX9_fill_81 : decode cX9_fill 81 = .ok (.iastore, 1) := by decide +kernel
theorem dX9_fill_82 : decode cX9_fill 82 = .ok (.iinc 4 1, 3) := by decide +kernel
theorem dX9_fill_85 : decode cX9_fill 85 = .ok (.goto (-29), 3) := by decide +kernel
theorem dX9_fill_88 : decode cX9_fill 88 = .ok (.iinc 3 1, 3) := by decide +kernel
theorem dX9_fill_91 : decode cX9_fill 91 = .ok (.goto (-84), 3) := by decide +kernel
theorem dX9_fill_94 : decode cX9_fill 94 = .ok (.iconst 0, 1) := by decide +kernel
theorem dX9_fill_95 : decode cX9_fill 95 = .ok (.istore_n 3, 1) := by decide +kernel
theorem dX9_fill_96 : decode cX9_fill 96 = .ok (.iload_n 3, 1) := by decide +kernel
theorem dX9_fill_97 : decode cX9_fill 97 = .ok (.bipush 19, 2) := by decide +kernel
theorem dX9_fill_99 : decode cX9_fill 99 = .ok (.if_icmp .ge 37, 3) := by decide +kernel
theorem dX9_fill_102 : decode cX9_fill 102 = .ok (.aload_n 0, 1) := by decide +kernel
theorem dX9_fill_103 : decode cX9_fill 103 = .ok (.getfield 60, 3) := by decide +kernel
theorem dX9_fill_106 : decode cX9_fill 106 = .ok (.bipush 14, 2) := by decide +kernel
theorem dX9_fill_108 : decode cX9_fill 108 = .ok (.iload_n 3, 1) := by decide +kernel
theorem dX9_fill_109 : decode cX9_fill 109 = .ok (.imul, 1) := by decide +kernel
theorem dX9_fill_110 : decode cX9_fill 110 = .ok (.bipush 13, 2) := by decide +kernel
theorem dX9_fill_112 : decode cX9_fill 112 = .ok (.iadd, 1) := by decide +kernel
theorem dX9_fill_113 : decode cX9_fill 113 = .ok (.iload_n 3, 1) := by decide +kernel
theorem dX9_fill_114 : decode cX9_fill 114 = .ok (.bipush 11, 2) := by decide +kernel
theorem dX9_fill_116 : decode cX9_fill 116 = .ok (.if_icmp .ge 12, 3) := by decide +kernel
theorem dX9_fill_119 : decode cX9_fill 119 = .ok (.aload_n 0, 1) := by decide +kernel
theorem dX9_fill_120 : decode cX9_fill 120 = .ok (.getfield 17, 3) := by decide +kernel
theorem dX9_fill_123 : decode cX9_fill 123 = .ok (.iload_n 3, 1) := by decide +kernel
theorem dX9_fill_124 : decode cX9_fill 124 = .ok (.iaload, 1) := by decide +kernel
theorem dX9_fill_125 : decode cX9_fill 125 = .ok (.goto 4, 3) := by decide +kernel
theorem dX9_fill_128 : decode cX9_fill 128 = .ok (.iconst 0, 1) := by decide +kernel
theorem dX9_fill_129 : decode cX9_fill 129 = .ok (.iastore, 1) := by decide +kernel
theorem dX9_fill_130 : decode cX9_fill 130 = .ok (.iinc 3 1, 3) := by decide +kernel
theorem dX9_fill_133 : decode cX9_fill 133 = .ok (.goto (-37), 3) := by decide +kernel
theorem dX9_fill_136 : decode cX9_fill 136 = .ok (.return_, 1) := by decide +kernel
theorem dX9_clears_0 : decode cX9_clears 0 = .ok (.iconst 0, 1) := by decide +kernel
theorem dX9_clears_1 : decode cX9_clears 1 = .ok (.istore_n 1, 1) := by decide +kernel
theorem dX9_clears_2 : decode cX9_clears 2 = .ok (.bipush 12, 2) := by decide +kernel
theorem dX9_clears_4 : decode cX9_clears 4 = .ok (.istore_n 2, 1) := by decide +kernel
theorem dX9_clears_5 : decode cX9_clears 5 = .ok (.iload_n 2, 1) := by decide +kernel
theorem dX9_clears_6 : decode cX9_clears 6 = .ok (.ifCond .lt 320, 3) := by decide +kernel
theorem dX9_clears_9 : decode cX9_clears 9 = .ok (.iload_n 1, 1) := by decide +kernel
theorem dX9_clears_10 : decode cX9_clears 10 = .ok (.istore_n 3, 1) := by decide +kernel
theorem dX9_clears_11 : decode cX9_clears 11 = .ok (.iload_n 3, 1) := by decide +kernel
theorem dX9_clears_12 : decode cX9_clears 12 = .ok (.bipush 19, 2) := by decide +kernel
theorem dX9_clears_14 : decode cX9_clears 14 = .ok (.if_icmp .ge 23, 3) := by decide +kernel
theorem dX9_clears_17 : decode cX9_clears 17 = .ok (.aload_n 0, 1) := by decide +kernel
theorem dX9_clears_18 : decode cX9_clears 18 = .ok (.getfield 60, 3) := by decide +kernel
theorem dX9_clears_21 : decode cX9_clears 21 = .ok (.bipush 14, 2) := by decide +kernel
theorem dX9_clears_23 : decode cX9_clears 23 = .ok (.iload_n 3, 1) := by decide +kernel
theorem dX9_clears_24 : decode cX9_clears 24 = .ok (.imul, 1) := by decide +kernel
theorem dX9_clears_25 : decode cX9_clears 25 = .ok (.iload_n 2, 1) := by decide +kernel
theorem dX9_clears_26 : decode cX9_clears 26 = .ok (.iadd, 1) := by decide +kernel
theorem dX9_clears_27 : decode cX9_clears 27 = .ok (.iaload, 1) := by decide +kernel
theorem dX9_clears_28 : decode cX9_clears 28 = .ok (.ifCond .ne 9, 3) := by decide +kernel
theorem dX9_clears_31 : decode cX9_clears 31 = .ok (.iinc 3 1, 3) := by decide +kernel
theorem dX9_clears_34 : decode cX9_clears 34 = .ok (.goto (-23), 3) := by decide +kernel
theorem dX9_clears_37 : decode cX9_clears 37 = .ok (.aload_n 0, 1) := by decide +kernel
theorem dX9_clears_38 : decode cX9_clears 38 = .ok (.getfield 69, 3) := by decide +kernel
theorem dX9_clears_41 : decode cX9_clears 41 = .ok (.iload_n 2, 1) := by decide +kernel
theorem dX9_clears_42 : decode cX9_clears 42 = .ok (.iconst (-1), 1) := by decide +kernel
theorem dX9_clears_43 : decode cX9_clears 43 = .ok (.iastore, 1) := by decide +kernel
theorem dX9_clears_44 : decode cX9_clears 44 = .ok (.iload_n 3, 1) := by decide +kernel
theorem dX9_clears_45 : decode cX9_clears 45 = .ok (.bipush 19, 2) := by decide +kernel
theorem dX9_clears_47 : decode cX9_clears 47 = .ok (.if_icmp .ge 273, 3) := by decide +kernel
theorem dX9_clears_50 : decode cX9_clears 50 = .ok (.iconst 0, 1) := by decide +kernel
theorem dX9_clears_51 : decode cX9_clears 51 = .ok (.istore 4, 2) := by decide +kernel
theorem dX9_clears_53 : decode cX9_clears 53 = .ok (.iload 4, 2) := by decide +kernel
theorem dX9_clears_55 : decode cX9_clears 55 = .ok (.bipush 14, 2) := by decide +kernel
theorem dX9_clears_57 : decode cX9_clears 57 = .ok (.if_icmp .ge 61, 3) := by decide +kernel
theorem dX9_clears_60 : decode cX9_clears 60 = .ok (.aload_n 0, 1) := by decide +kernel
theorem dX9_clears_61 : decode cX9_clears 61 = .ok (.getfield 60, 3) := by decide +kernel
theorem dX9_clears_64 : decode cX9_clears 64 = .ok (.bipush 14, 2) := by decide +kernel
theorem dX9_clears_66 : decode cX9_clears 66 = .ok (.iload_n 3, 1) := by decide +kernel
theorem dX9_clears_67 : decode cX9_clears 67 = .ok (.imul, 1) := by decide +kernel
theorem dX9_clears_68 : decode cX9_clears 68 = .ok (.iload 4, 2) := by decide +kernel
theorem dX9_clears_70 : decode cX9_clears 70 = .ok (.iadd, 1) := by decide +kernel
theorem dX9_clears_71 : decode cX9_clears 71 = .ok (.iaload, 1) := by decide +kernel
theorem dX9_clears_72 : decode cX9_clears 72 = .ok (.istore 5, 2) := by decide +kernel
theorem dX9_clears_74 : decode cX9_clears 74 = .ok (.aload_n 0, 1) := by decide +kernel
theorem dX9_clears_75 : decode cX9_clears 75 = .ok (.getfield 60, 3) := by decide +kernel
theorem dX9_clears_78 : decode cX9_clears 78 = .ok (.bipush 14, 2) := by decide +kernel
theorem dX9_clears_80 : decode cX9_clears 80 = .ok (.iload_n 3, 1) := by decide +kernel
theorem dX9_clears_81 : decode cX9_clears 81 = .ok (.imul, 1) := by decide +kernel
theorem dX9_clears_82 : decode cX9_clears 82 = .ok (.iload 4, 2) := by decide +kernel
theorem dX9_clears_84 : decode cX9_clears 84 = .ok (.iadd, 1) := by decide +kernel
theorem dX9_clears_85 : decode cX9_clears 85 = .ok (.aload_n 0, 1) := by decide +kernel
theorem dX9_clears_86 : decode cX9_clears 86 = .ok (.getfield 60, 3) := by decide +kernel
theorem dX9_clears_89 : decode cX9_clears 89 = .ok (.bipush 14, 2) := by decide +kernel
theorem dX9_clears_91 : decode cX9_clears 91 = .ok (.iload_n 1, 1) := by decide +kernel
theorem dX9_clears_92 : decode cX9_clears 92 = .ok (.imul, 1) := by decide +kernel
theorem dX9_clears_93 : decode cX9_clears 93 = .ok (.iload 4, 2) := by decide +kernel
theorem dX9_clears_95 : decode cX9_clears 95 = .ok (.iadd, 1) := by decide +kernel
theorem dX9_clears_96 : decode cX9_clears 96 = .ok (.iaload, 1) := by decide +kernel
theorem dX9_clears_97 : decode cX9_clears 97 = .ok (.iastore, 1) := by decide +kernel
theorem dX9_clears_98 : decode cX9_clears 98 = .ok (.aload_n 0, 1) := by decide +kernel
theorem dX9_clears_99 : decode cX9_clears 99 = .ok (.getfield 60, 3) := by decide +kernel
theorem dX9_clears_102 : decode cX9_clears 102 = .ok (.bipush 14, 2) := by decide +kernel
theorem dX9_clears_104 : decode cX9_clears 104 = .ok (.iload_n 1, 1) := by decide +kernel
theorem dX9_clears_105 : decode cX9_clears 105 = .ok (.imul, 1) := by decide +kernel
theorem dX9_clears_106 : decode cX9_clears 106 = .ok (.iload 4, 2) := by decide +kernel
theorem dX9_clears_108 : decode cX9_clears 108 = .ok (.iadd, 1) := by decide +kernel
theorem dX9_clears_109 : decode cX9_clears 109 = .ok (.iload 5, 2) := by decide +kernel
theorem dX9_clears_111 : decode cX9_clears 111 = .ok (.iastore, 1) := by decide +kernel
theorem dX9_clears_112 : decode cX9_clears 112 = .ok (.iinc 4 1, 3) := by decide +kernel
theorem dX9_clears_115 : decode cX9_clears 115 = .ok (.goto (-62), 3) := by decide +kernel
theorem dX9_clears_118 : decode cX9_clears 118 = .ok (.aload_n 0, 1) := by decide +kernel
theorem dX9_clears_119 : decode cX9_clears 119 = .ok (.getfield 60, 3) := by decide +kernel
theorem dX9_clears_122 : decode cX9_clears 122 = .ok (.bipush 14, 2) := by decide +kernel
theorem dX9_clears_124 : decode cX9_clears 124 = .ok (.iload_n 1, 1) := by decide +kernel
theorem dX9_clears_125 : decode cX9_clears 125 = .ok (.imul, 1) := by decide +kernel
theorem dX9_clears_126 : decode cX9_clears 126 = .ok (.iload_n 2, 1) := by decide +kernel
theorem dX9_clears_127 : decode cX9_clears 127 = .ok (.iadd, 1) := by decide +kernel
theorem dX9_clears_128 : decode cX9_clears 128 = .ok (.iaload, 1) := by decide +kernel
theorem dX9_clears_129 : decode cX9_clears 129 = .ok (.invokestatic 91, 3) := by decide +kernel
theorem dX9_clears_132 : decode cX9_clears 132 = .ok (.i2l, 1) := by decide +kernel
theorem dX9_clears_133 : decode cX9_clears 133 = .ok (.lstore 4, 2) := by decide +kernel
theorem dX9_clears_135 : decode cX9_clears 135 = .ok (.iconst 0, 1) := by decide +kernel
theorem dX9_clears_136 : decode cX9_clears 136 = .ok (.istore 6, 2) := by decide +kernel
theorem dX9_clears_138 : decode cX9_clears 138 = .ok (.iload 6, 2) := by decide +kernel
theorem dX9_clears_140 : decode cX9_clears 140 = .ok (.bipush 14, 2) := by decide +kernel
theorem dX9_clears_142 : decode cX9_clears 142 = .ok (.if_icmp .ge 42, 3) := by decide +kernel
theorem dX9_clears_145 : decode cX9_clears 145 = .ok (.aload_n 0, 1) := by decide +kernel
theorem dX9_clears_146 : decode cX9_clears 146 = .ok (.getfield 60, 3) := by decide +kernel
theorem dX9_clears_149 : decode cX9_clears 149 = .ok (.bipush 14, 2) := by decide +kernel
theorem dX9_clears_151 : decode cX9_clears 151 = .ok (.iload_n 1, 1) := by decide +kernel
theorem dX9_clears_152 : decode cX9_clears 152 = .ok (.imul, 1) := by decide +kernel
theorem dX9_clears_153 : decode cX9_clears 153 = .ok (.iload 6, 2) := by decide +kernel
theorem dX9_clears_155 : decode cX9_clears 155 = .ok (.iadd, 1) := by decide +kernel
theorem dX9_clears_156 : decode cX9_clears 156 = .ok (.aload_n 0, 1) := by decide +kernel
theorem dX9_clears_157 : decode cX9_clears 157 = .ok (.getfield 60, 3) := by decide +kernel
theorem dX9_clears_160 : decode cX9_clears 160 = .ok (.bipush 14, 2) := by decide +kernel
theorem dX9_clears_162 : decode cX9_clears 162 = .ok (.iload_n 1, 1) := by decide +kernel
theorem dX9_clears_163 : decode cX9_clears 163 = .ok (.imul, 1) := by decide +kernel
theorem dX9_clears_164 : decode cX9_clears 164 = .ok (.iload 6, 2) := by decide +kernel
theorem dX9_clears_166 : decode cX9_clears 166 = .ok (.iadd, 1) := by decide +kernel
theorem dX9_clears_167 : decode cX9_clears 167 = .ok (.iaload, 1) := by decide +kernel
theorem dX9_clears_168 : decode cX9_clears 168 = .ok (.i2l, 1) := by decide +kernel
theorem dX9_clears_169 : decode cX9_clears 169 = .ok (.lload 4, 2) := by decide +kernel
theorem dX9_clears_171 : decode cX9_clears 171 = .ok (.lmul, 1) := by decide +kernel
theorem dX9_clears_172 : decode cX9_clears 172 = .ok (.ldc2_w 78, 3) := by decide +kernel
theorem dX9_clears_175 : decode cX9_clears 175 = .ok (.lrem, 1) := by decide +kernel
theorem dX9_clears_176 : decode cX9_clears 176 = .ok (.l2i, 1) := by decide +kernel
theorem dX9_clears_177 : decode cX9_clears 177 = .ok (.iastore, 1) := by decide +kernel
theorem dX9_clears_178 : decode cX9_clears 178 = .ok (.iinc 6 1, 3) := by decide +kernel
theorem dX9_clears_181 : decode cX9_clears 181 = .ok (.goto (-43), 3) := by decide +kernel
theorem dX9_clears_184 : decode cX9_clears 184 = .ok (.iconst 0, 1) := by decide +kernel
theorem dX9_clears_185 : decode cX9_clears 185 = .ok (.istore 6, 2) := by decide +kernel
theorem dX9_clears_187 : decode cX9_clears 187 = .ok (.iload 6, 2) := by decide +kernel
theorem dX9_clears_189 : decode cX9_clears 189 = .ok (.bipush 19, 2) := by decide +kernel
theorem dX9_clears_191 : decode cX9_clears 191 = .ok (.if_icmp .ge 119, 3) := by decide +kernel
theorem dX9_clears_194 : decode cX9_clears 194 = .ok (.iload 6, 2) := by decide +kernel
theorem dX9_clears_196 : decode cX9_clears 196 = .ok (.iload_n 1, 1) := by decide +kernel
theorem dX9_clears_197 : decode cX9_clears 197 = .ok (.if_icmp .ne 7, 3) := by decide +kernel
theorem dX9_clears_200 : decode cX9_clears 200 = .ok (.lconst 0, 1) := by decide +kernel
theorem dX9_clears_201 : decode cX9_clears 201 = .ok (.goto 20, 3) := by decide +kernel
theorem dX9_clears_204 : decode cX9_clears 204 = .ok (.sipush 32003, 3) := by decide +kernel
theorem dX9_clears_207 : decode cX9_clears 207 = .ok (.aload_n 0, 1) := by decide +kernel
theorem dX9_clears_208 : decode cX9_clears 208 = .ok (.getfield 60, 3) := by decide +kernel
theorem dX9_clears_211 : decode cX9_clears 211 = .ok (.bipush 14, 2) := by decide +kernel
theorem dX9_clears_213 : decode cX9_clears 213 = .ok (.iload 6, 2) := by decide +kernel
theorem dX9_clears_215 : decode cX9_clears 215 = .ok (.imul, 1) := by decide +kernel
theorem dX9_clears_216 : decode cX9_clears 216 = .ok (.iload_n 2, 1) := by decide +kernel
theorem dX9_clears_217 : decode cX9_clears 217 = .ok (.iadd, 1) := by decide +kernel
theorem dX9_clears_218 : decode cX9_clears 218 = .ok (.iaload, 1) := by decide +kernel
theorem dX9_clears_219 : decode cX9_clears 219 = .ok (.isub, 1) := by decide +kernel
theorem dX9_clears_220 : decode cX9_clears 220 = .ok (.i2l, 1) := by decide +kernel
theorem dX9_clears_221 : decode cX9_clears 221 = .ok (.lstore 7, 2) := by decide +kernel
theorem dX9_clears_223 : decode cX9_clears 223 = .ok (.iconst 0, 1) := by decide +kernel
theorem dX9_clears_224 : decode cX9_clears 224 = .ok (.istore 9, 2) := by decide +kernel
theorem dX9_clears_226 : decode cX9_clears 226 = .ok (.iload 9, 2) := by decide +kernel
theorem dX9_clears_228 : decode cX9_clears 228 = .ok (.bipush 14, 2) := by decide +kernel
theorem dX9_clears_230 : decode cX9_clears 230 = .ok (.if_icmp .ge 74, 3) := by decide +kernel
theorem dX9_clears_233 : decode cX9_clears 233 = .ok (.lload 7, 2) := by decide +kernel
theorem dX9_clears_235 : decode cX9_clears 235 = .ok (.ldc2_w 78, 3) := by decide +kernel
theorem dX9_clears_238 : decode cX9_clears 238 = .ok (.lcmp, 1) := by decide +kernel
theorem dX9_clears_239 : decode cX9_clears 239 = .ok (.ifCond .ge 65, 3) := by decide +kernel
theorem dX9_clears_242 : decode cX9_clears 242 = .ok (.lload 7, 2) := by decide +kernel
theorem dX9_clears_244 : decode cX9_clears 244 = .ok (.lconst 0, 1) := by decide +kernel
theorem dX9_clears_245 : decode cX9_clears 245 = .ok (.lcmp, 1) := by decide +kernel
theorem dX9_clears_246 : decode cX9_clears 246 = .ok (.ifCond .le 58, 3) := by decide +kernel
theorem dX9_clears_249 : decode cX9_clears 249 = .ok (.aload_n 0, 1) := by decide +kernel
theorem dX9_clears_250 : decode cX9_clears 250 = .ok (.getfield 60, 3) := by decide +kernel
theorem dX9_clears_253 : decode cX9_clears 253 = .ok (.bipush 14, 2) := by decide +kernel
theorem dX9_clears_255 : decode cX9_clears 255 = .ok (.iload 6, 2) := by decide +kernel
theorem dX9_clears_257 : decode cX9_clears 257 = .ok (.imul, 1) := by decide +kernel
theorem dX9_clears_258 : decode cX9_clears 258 = .ok (.iload 9, 2) := by decide +kernel
theorem dX9_clears_260 : decode cX9_clears 260 = .ok (.iadd, 1) := by decide +kernel
theorem dX9_clears_261 : decode cX9_clears 261 = .ok (.aload_n 0, 1) := by decide +kernel
theorem dX9_clears_262 : decode cX9_clears 262 = .ok (.getfield 60, 3) := by decide +kernel
theorem dX9_clears_265 : decode cX9_clears 265 = .ok (.bipush 14, 2) := by decide +kernel
theorem dX9_clears_267 : decode cX9_clears 267 = .ok (.iload 6, 2) := by decide +kernel
theorem dX9_clears_269 : decode cX9_clears 269 = .ok (.imul, 1) := by decide +kernel
theorem dX9_clears_270 : decode cX9_clears 270 = .ok (.iload 9, 2) := by decide +kernel
theorem dX9_clears_272 : decode cX9_clears 272 = .ok (.iadd, 1) := by decide +kernel
theorem dX9_clears_273 : decode cX9_clears 273 = .ok (.iaload, 1) := by decide +kernel
theorem dX9_clears_274 : decode cX9_clears 274 = .ok (.i2l, 1) := by decide +kernel
theorem dX9_clears_275 : decode cX9_clears 275 = .ok (.lload 7, 2) := by decide +kernel
theorem dX9_clears_277 : decode cX9_clears 277 = .ok (.aload_n 0, 1) := by decide +kernel
theorem dX9_clears_278 : decode cX9_clears 278 = .ok (.getfield 60, 3) := by decide +kernel
theorem dX9_clears_281 : decode cX9_clears 281 = .ok (.bipush 14, 2) := by decide +kernel
theorem dX9_clears_283 : decode cX9_clears 283 = .ok (.iload_n 1, 1) := by decide +kernel
theorem dX9_clears_284 : decode cX9_clears 284 = .ok (.imul, 1) := by decide +kernel
theorem dX9_clears_285 : decode cX9_clears 285 = .ok (.iload 9, 2) := by decide +kernel
theorem dX9_clears_287 : decode cX9_clears 287 = .ok (.iadd, 1) := by decide +kernel
theorem dX9_clears_288 : decode cX9_clears 288 = .ok (.iaload, 1) := by decide +kernel
theorem dX9_clears_289 : decode cX9_clears 289 = .ok (.i2l, 1) := by decide +kernel
theorem dX9_clears_290 : decode cX9_clears 290 = .ok (.lmul, 1) := by decide +kernel
theorem dX9_clears_291 : decode cX9_clears 291 = .ok (.ladd, 1) := by decide +kernel
theorem dX9_clears_292 : decode cX9_clears 292 = .ok (.ldc2_w 78, 3) := by decide +kernel
theorem dX9_clears_295 : decode cX9_clears 295 = .ok (.lrem, 1) := by decide +kernel
theorem dX9_clears_296 : decode cX9_clears 296 = .ok (.l2i, 1) := by decide +kernel
theorem dX9_clears_297 : decode cX9_clears 297 = .ok (.iastore, 1) := by decide +kernel
theorem dX9_clears_298 : decode cX9_clears 298 = .ok (.iinc 9 1, 3) := by decide +kernel
theorem dX9_clears_301 : decode cX9_clears 301 = .ok (.goto (-75), 3) := by decide +kernel
theorem dX9_clears_304 : decode cX9_clears 304 = .ok (.iinc 6 1, 3) := by decide +kernel
theorem dX9_clears_307 : decode cX9_clears 307 = .ok (.goto (-120), 3) := by decide +kernel
theorem dX9_clears_310 : decode cX9_clears 310 = .ok (.aload_n 0, 1) := by decide +kernel
theorem dX9_clears_311 : decode cX9_clears 311 = .ok (.getfield 69, 3) := by decide +kernel
theorem dX9_clears_314 : decode cX9_clears 314 = .ok (.iload_n 2, 1) := by decide +kernel
theorem dX9_clears_315 : decode cX9_clears 315 = .ok (.iload_n 1, 1) := by decide +kernel
theorem dX9_clears_316 : decode cX9_clears 316 = .ok (.iastore, 1) := by decide +kernel
theorem dX9_clears_317 : decode cX9_clears 317 = .ok (.iinc 1 1, 3) := by decide +kernel
theorem dX9_clears_320 : decode cX9_clears 320 = .ok (.iinc 2 (-1), 3) := by decide +kernel
theorem dX9_clears_323 : decode cX9_clears 323 = .ok (.goto (-318), 3) := by decide +kernel
theorem dX9_clears_326 : decode cX9_clears 326 = .ok (.iload_n 1, 1) := by decide +kernel
theorem dX9_clears_327 : decode cX9_clears 327 = .ok (.ireturn, 1) := by decide +kernel
theorem dX9_answers_0 : decode cX9_answers 0 = .ok (.iconst 0, 1) := by decide +kernel
theorem dX9_answers_1 : decode cX9_answers 1 = .ok (.istore_n 3, 1) := by decide +kernel
theorem dX9_answers_2 : decode cX9_answers 2 = .ok (.bipush 12, 2) := by decide +kernel
theorem dX9_answers_4 : decode cX9_answers 4 = .ok (.istore 4, 2) := by decide +kernel
theorem dX9_answers_6 : decode cX9_answers 6 = .ok (.iload 4, 2) := by decide +kernel
theorem dX9_answers_8 : decode cX9_answers 8 = .ok (.ifCond .lt 107, 3) := by decide +kernel
theorem dX9_answers_11 : decode cX9_answers 11 = .ok (.aload_n 0, 1) := by decide +kernel
theorem dX9_answers_12 : decode cX9_answers 12 = .ok (.getfield 69, 3) := by decide +kernel
theorem dX9_answers_15 : decode cX9_answers 15 = .ok (.iload 4, 2) := by decide +kernel
theorem dX9_answers_17 : decode cX9_answers 17 = .ok (.iaload, 1) := by decide +kernel
theorem dX9_answers_18 : decode cX9_answers 18 = .ok (.ifCond .ge 91, 3) := by decide +kernel
theorem dX9_answers_21 : decode cX9_answers 21 = .ok (.iconst 0, 1) := by decide +kernel
theorem dX9_answers_22 : decode cX9_answers 22 = .ok (.istore 5, 2) := by decide +kernel
theorem dX9_answers_24 : decode cX9_answers 24 = .ok (.iload 5, 2) := by decide +kernel
theorem dX9_answers_26 : decode cX9_answers 26 = .ok (.bipush 13, 2) := by decide +kernel
theorem dX9_answers_28 : decode cX9_answers 28 = .ok (.if_icmp .ge 78, 3) := by decide +kernel
theorem dX9_answers_31 : decode cX9_answers 31 = .ok (.bipush 12, 2) := by decide +kernel
theorem dX9_answers_33 : decode cX9_answers 33 = .ok (.iload 5, 2) := by decide +kernel
theorem dX9_answers_35 : decode cX9_answers 35 = .ok (.isub, 1) := by decide +kernel
theorem dX9_answers_36 : decode cX9_answers 36 = .ok (.istore 6, 2) := by decide +kernel
theorem dX9_answers_38 : decode cX9_answers 38 = .ok (.aload_n 1, 1) := by decide +kernel
theorem dX9_answers_39 : decode cX9_answers 39 = .ok (.iload_n 2, 1) := by decide +kernel
theorem dX9_answers_40 : decode cX9_answers 40 = .ok (.bipush 13, 2) := by decide +kernel
theorem dX9_answers_42 : decode cX9_answers 42 = .ok (.iload_n 3, 1) := by decide +kernel
theorem dX9_answers_43 : decode cX9_answers 43 = .ok (.imul, 1) := by decide +kernel
theorem dX9_answers_44 : decode cX9_answers 44 = .ok (.iadd, 1) := by decide +kernel
theorem dX9_answers_45 : decode cX9_answers 45 = .ok (.iload 5, 2) := by decide +kernel
theorem dX9_answers_47 : decode cX9_answers 47 = .ok (.iadd, 1) := by decide +kernel
theorem dX9_answers_48 : decode cX9_answers 48 = .ok (.iload 6, 2) := by decide +kernel
theorem dX9_answers_50 : decode cX9_answers 50 = .ok (.iload 4, 2) := by decide +kernel
theorem dX9_answers_52 : decode cX9_answers 52 = .ok (.if_icmp .ne 7, 3) := by decide +kernel
theorem dX9_answers_55 : decode cX9_answers 55 = .ok (.iconst 1, 1) := by decide +kernel
theorem dX9_answers_56 : decode cX9_answers 56 = .ok (.goto 43, 3) := by decide +kernel
theorem dX9_answers_59 : decode cX9_answers 59 = .ok (.aload_n 0, 1) := by decide +kernel
theorem dX9_answers_60 : decode cX9_answers 60 = .ok (.getfield 69, 3) := by decide +kernel
theorem dX9_answers_63 : decode cX9_answers 63 = .ok (.iload 6, 2) := by decide +kernel
theorem dX9_answers_65 : decode cX9_answers 65 = .ok (.iaload, 1) := by decide +kernel
theorem dX9_answers_66 : decode cX9_answers 66 = .ok (.ifCond .ge 7, 3) := by decide +kernel
theorem dX9_answers_69 : decode cX9_answers 69 = .ok (.iconst 0, 1) := by decide +kernel
theorem dX9_answers_70 : decode cX9_answers 70 = .ok (.goto 29, 3) := by decide +kernel
theorem dX9_answers_73 : decode cX9_answers 73 = .ok (.sipush 32003, 3) := by decide +kernel
theorem dX9_answers_76 : decode cX9_answers 76 = .ok (.aload_n 0, 1) := by decide +kernel
theorem dX9_answers_77 : decode cX9_answers 77 = .ok (.getfield 60, 3) := by decide +kernel
theorem dX9_answers_80 : decode cX9_answers 80 = .ok (.bipush 14, 2) := by decide +kernel
theorem dX9_answers_82 : decode cX9_answers 82 = .ok (.aload_n 0, 1) := by decide +kernel
theorem dX9_answers_83 : decode cX9_answers 83 = .ok (.getfield 69, 3) := by decide +kernel
theorem dX9_answers_86 : decode cX9_answers 86 = .ok (.iload 6, 2) := by decide +kernel
theorem dX9_answers_88 : decode cX9_answers 88 = .ok (.iaload, 1) := by decide +kernel
theorem dX9_answers_89 : decode cX9_answers 89 = .ok (.imul, 1) := by decide +kernel
theorem dX9_answers_90 : decode cX9_answers 90 = .ok (.iload 4, 2) := by decide +kernel
theorem dX9_answers_92 : decode cX9_answers 92 = .ok (.iadd, 1) := by decide +kernel
theorem dX9_answers_93 : decode cX9_answers 93 = .ok (.iaload, 1) := by decide +kernel
theorem dX9_answers_94 : decode cX9_answers 94 = .ok (.isub, 1) := by decide +kernel
theorem dX9_answers_95 : decode cX9_answers 95 = .ok (.sipush 32003, 3) := by decide +kernel
theorem dX9_answers_98 : decode cX9_answers 98 = .ok (.irem, 1) := by decide +kernel
theorem dX9_answers_99 : decode cX9_answers 99 = .ok (.iastore, 1) := by decide +kernel
theorem dX9_answers_100 : decode cX9_answers 100 = .ok (.iinc 5 1, 3) := by decide +kernel
theorem dX9_answers_103 : decode cX9_answers 103 = .ok (.goto (-79), 3) := by decide +kernel
theorem dX9_answers_106 : decode cX9_answers 106 = .ok (.iinc 3 1, 3) := by decide +kernel
theorem dX9_answers_109 : decode cX9_answers 109 = .ok (.iinc 4 (-1), 3) := by decide +kernel
theorem dX9_answers_112 : decode cX9_answers 112 = .ok (.goto (-106), 3) := by decide +kernel
theorem dX9_answers_115 : decode cX9_answers 115 = .ok (.iload_n 3, 1) := by decide +kernel
theorem dX9_answers_116 : decode cX9_answers 116 = .ok (.ireturn, 1) := by decide +kernel
theorem dX9_greatest_0 : decode cX9_greatest 0 = .ok (.aload_n 0, 1) := by decide +kernel
theorem dX9_greatest_1 : decode cX9_greatest 1 = .ok (.getfield 75, 3) := by decide +kernel
theorem dX9_greatest_4 : decode cX9_greatest 4 = .ok (.istore_n 1, 1) := by decide +kernel
theorem dX9_greatest_5 : decode cX9_greatest 5 = .ok (.iload_n 1, 1) := by decide +kernel
theorem dX9_greatest_6 : decode cX9_greatest 6 = .ok (.ifCond .lt 39, 3) := by decide +kernel
theorem dX9_greatest_9 : decode cX9_greatest 9 = .ok (.iconst 0, 1) := by decide +kernel
theorem dX9_greatest_10 : decode cX9_greatest 10 = .ok (.istore_n 2, 1) := by decide +kernel
theorem dX9_greatest_11 : decode cX9_greatest 11 = .ok (.iload_n 2, 1) := by decide +kernel
theorem dX9_greatest_12 : decode cX9_greatest 12 = .ok (.bipush 7, 2) := by decide +kernel
theorem dX9_greatest_14 : decode cX9_greatest 14 = .ok (.if_icmp .ge 25, 3) := by decide +kernel
theorem dX9_greatest_17 : decode cX9_greatest 17 = .ok (.aload_n 0, 1) := by decide +kernel
theorem dX9_greatest_18 : decode cX9_greatest 18 = .ok (.getfield 13, 3) := by decide +kernel
theorem dX9_greatest_21 : decode cX9_greatest 21 = .ok (.bipush 7, 2) := by decide +kernel
theorem dX9_greatest_23 : decode cX9_greatest 23 = .ok (.iload_n 1, 1) := by decide +kernel
theorem dX9_greatest_24 : decode cX9_greatest 24 = .ok (.imul, 1) := by decide +kernel
theorem dX9_greatest_25 : decode cX9_greatest 25 = .ok (.iload_n 2, 1) := by decide +kernel
theorem dX9_greatest_26 : decode cX9_greatest 26 = .ok (.iadd, 1) := by decide +kernel
theorem dX9_greatest_27 : decode cX9_greatest 27 = .ok (.iaload, 1) := by decide +kernel
theorem dX9_greatest_28 : decode cX9_greatest 28 = .ok (.ifCond .eq 5, 3) := by decide +kernel
theorem dX9_greatest_31 : decode cX9_greatest 31 = .ok (.iload_n 1, 1) := by decide +kernel
theorem dX9_greatest_32 : decode cX9_greatest 32 = .ok (.ireturn, 1) := by decide +kernel
theorem dX9_greatest_33 : decode cX9_greatest 33 = .ok (.iinc 2 1, 3) := by decide +kernel
theorem dX9_greatest_36 : decode cX9_greatest 36 = .ok (.goto (-25), 3) := by decide +kernel
theorem dX9_greatest_39 : decode cX9_greatest 39 = .ok (.iinc 1 (-1), 3) := by decide +kernel
theorem dX9_greatest_42 : decode cX9_greatest 42 = .ok (.goto (-37), 3) := by decide +kernel
theorem dX9_greatest_45 : decode cX9_greatest 45 = .ok (.iconst (-1), 1) := by decide +kernel
theorem dX9_greatest_46 : decode cX9_greatest 46 = .ok (.ireturn, 1) := by decide +kernel
theorem dX9_highest_0 : decode cX9_highest 0 = .ok (.bipush 6, 2) := by decide +kernel
theorem dX9_highest_2 : decode cX9_highest 2 = .ok (.istore_n 1, 1) := by decide +kernel
theorem dX9_highest_3 : decode cX9_highest 3 = .ok (.iload_n 1, 1) := by decide +kernel
theorem dX9_highest_4 : decode cX9_highest 4 = .ok (.ifCond .le 41, 3) := by decide +kernel
theorem dX9_highest_7 : decode cX9_highest 7 = .ok (.iconst 0, 1) := by decide +kernel
theorem dX9_highest_8 : decode cX9_highest 8 = .ok (.istore_n 2, 1) := by decide +kernel
theorem dX9_highest_9 : decode cX9_highest 9 = .ok (.iload_n 2, 1) := by decide +kernel
theorem dX9_highest_10 : decode cX9_highest 10 = .ok (.aload_n 0, 1) := by decide +kernel
theorem dX9_highest_11 : decode cX9_highest 11 = .ok (.getfield 75, 3) := by decide +kernel
theorem dX9_highest_14 : decode cX9_highest 14 = .ok (.if_icmp .gt 25, 3) := by decide +kernel
theorem dX9_highest_17 : decode cX9_highest 17 = .ok (.aload_n 0, 1) := by decide +kernel
theorem dX9_highest_18 : decode cX9_highest 18 = .ok (.getfield 13, 3) := by decide +kernel
theorem dX9_highest_21 : decode cX9_highest 21 = .ok (.bipush 7, 2) := by decide +kernel
theorem dX9_highest_23 : decode cX9_highest 23 = .ok (.iload_n 2, 1) := by decide +kernel
theorem dX9_highest_24 : decode cX9_highest 24 = .ok (.imul, 1) := by decide +kernel
theorem dX9_highest_25 : decode cX9_highest 25 = .ok (.iload_n 1, 1) := by decide +kernel
theorem dX9_highest_26 : decode cX9_highest 26 = .ok (.iadd, 1) := by decide +kernel
theorem dX9_highest_27 : decode cX9_highest 27 = .ok (.iaload, 1) := by decide +kernel
theorem dX9_highest_28 : decode cX9_highest 28 = .ok (.ifCond .eq 5, 3) := by decide +kernel
theorem dX9_highest_31 : decode cX9_highest 31 = .ok (.iload_n 1, 1) := by decide +kernel
theorem dX9_highest_32 : decode cX9_highest 32 = .ok (.ireturn, 1) := by decide +kernel
theorem dX9_highest_33 : decode cX9_highest 33 = .ok (.iinc 2 1, 3) := by decide +kernel
theorem dX9_highest_36 : decode cX9_highest 36 = .ok (.goto (-27), 3) := by decide +kernel
theorem dX9_highest_39 : decode cX9_highest 39 = .ok (.iinc 1 (-1), 3) := by decide +kernel
theorem dX9_highest_42 : decode cX9_highest 42 = .ok (.goto (-39), 3) := by decide +kernel
theorem dX9_highest_45 : decode cX9_highest 45 = .ok (.iconst 0, 1) := by decide +kernel
theorem dX9_highest_46 : decode cX9_highest 46 = .ok (.ireturn, 1) := by decide +kernel
theorem dX9_thrown_0 : decode cX9_thrown 0 = .ok (.aload_n 0, 1) := by decide +kernel
theorem dX9_thrown_1 : decode cX9_thrown 1 = .ok (.getfield 7, 3) := by decide +kernel
theorem dX9_thrown_4 : decode cX9_thrown 4 = .ok (.ireturn, 1) := by decide +kernel
theorem dX9_factor_0 : decode cX9_factor 0 = .ok (.aload_n 0, 1) := by decide +kernel
theorem dX9_factor_1 : decode cX9_factor 1 = .ok (.iload_n 1, 1) := by decide +kernel
theorem dX9_factor_2 : decode cX9_factor 2 = .ok (.ifCond .lt 11, 3) := by decide +kernel
theorem dX9_factor_5 : decode cX9_factor 5 = .ok (.iload_n 1, 1) := by decide +kernel
theorem dX9_factor_6 : decode cX9_factor 6 = .ok (.aload_n 0, 1) := by decide +kernel
theorem dX9_factor_7 : decode cX9_factor 7 = .ok (.getfield 75, 3) := by decide +kernel
theorem dX9_factor_10 : decode cX9_factor 10 = .ok (.if_icmp .le 7, 3) := by decide +kernel
theorem dX9_factor_13 : decode cX9_factor 13 = .ok (.iconst 1, 1) := by decide +kernel
theorem dX9_factor_14 : decode cX9_factor 14 = .ok (.goto 33, 3) := by decide +kernel
theorem dX9_factor_17 : decode cX9_factor 17 = .ok (.iload_n 2, 1) := by decide +kernel
theorem dX9_factor_18 : decode cX9_factor 18 = .ok (.ifCond .lt 9, 3) := by decide +kernel
theorem dX9_factor_21 : decode cX9_factor 21 = .ok (.iload_n 2, 1) := by decide +kernel
theorem dX9_factor_22 : decode cX9_factor 22 = .ok (.bipush 6, 2) := by decide +kernel
theorem dX9_factor_24 : decode cX9_factor 24 = .ok (.if_icmp .le 7, 3) := by decide +kernel
theorem dX9_factor_27 : decode cX9_factor 27 = .ok (.iconst 2, 1) := by decide +kernel
theorem dX9_factor_28 : decode cX9_factor 28 = .ok (.goto 19, 3) := by decide +kernel
theorem dX9_factor_31 : decode cX9_factor 31 = .ok (.lload 5, 2) := by decide +kernel
theorem dX9_factor_33 : decode cX9_factor 33 = .ok (.ldc2_w 78, 3) := by decide +kernel
theorem dX9_factor_36 : decode cX9_factor 36 = .ok (.lrem, 1) := by decide +kernel
theorem dX9_factor_37 : decode cX9_factor 37 = .ok (.lconst 0, 1) := by decide +kernel
theorem dX9_factor_38 : decode cX9_factor 38 = .ok (.lcmp, 1) := by decide +kernel
theorem dX9_factor_39 : decode cX9_factor 39 = .ok (.ifCond .ne 7, 3) := by decide +kernel
theorem dX9_factor_42 : decode cX9_factor 42 = .ok (.iconst 3, 1) := by decide +kernel
theorem dX9_factor_43 : decode cX9_factor 43 = .ok (.goto 4, 3) := by decide +kernel
theorem dX9_factor_46 : decode cX9_factor 46 = .ok (.iconst 0, 1) := by decide +kernel
theorem dX9_factor_47 : decode cX9_factor 47 = .ok (.putfield 7, 3) := by decide +kernel
theorem dX9_factor_50 : decode cX9_factor 50 = .ok (.aload_n 0, 1) := by decide +kernel
theorem dX9_factor_51 : decode cX9_factor 51 = .ok (.getfield 7, 3) := by decide +kernel
theorem dX9_factor_54 : decode cX9_factor 54 = .ok (.ifCond .eq 5, 3) := by decide +kernel
theorem dX9_factor_57 : decode cX9_factor 57 = .ok (.iconst 0, 1) := by decide +kernel
theorem dX9_factor_58 : decode cX9_factor 58 = .ok (.ireturn, 1) := by decide +kernel
theorem dX9_factor_59 : decode cX9_factor 59 = .ok (.lload_n 3, 1) := by decide +kernel
theorem dX9_factor_60 : decode cX9_factor 60 = .ok (.invokestatic 95, 3) := by decide +kernel
theorem dX9_factor_63 : decode cX9_factor 63 = .ok (.i2l, 1) := by decide +kernel
theorem dX9_factor_64 : decode cX9_factor 64 = .ok (.lload 5, 2) := by decide +kernel
theorem dX9_factor_66 : decode cX9_factor 66 = .ok (.invokestatic 95, 3) := by decide +kernel
theorem dX9_factor_69 : decode cX9_factor 69 = .ok (.invokestatic 91, 3) := by decide +kernel
theorem dX9_factor_72 : decode cX9_factor 72 = .ok (.i2l, 1) := by decide +kernel
theorem dX9_factor_73 : decode cX9_factor 73 = .ok (.lmul, 1) := by decide +kernel
theorem dX9_factor_74 : decode cX9_factor 74 = .ok (.ldc2_w 78, 3) := by decide +kernel
theorem dX9_factor_77 : decode cX9_factor 77 = .ok (.lrem, 1) := by decide +kernel
theorem dX9_factor_78 : decode cX9_factor 78 = .ok (.l2i, 1) := by decide +kernel
theorem dX9_factor_79 : decode cX9_factor 79 = .ok (.istore 7, 2) := by decide +kernel
theorem dX9_factor_81 : decode cX9_factor 81 = .ok (.aload_n 0, 1) := by decide +kernel
theorem dX9_factor_82 : decode cX9_factor 82 = .ok (.getfield 13, 3) := by decide +kernel
theorem dX9_factor_85 : decode cX9_factor 85 = .ok (.bipush 7, 2) := by decide +kernel
theorem dX9_factor_87 : decode cX9_factor 87 = .ok (.iload_n 1, 1) := by decide +kernel
theorem dX9_factor_88 : decode cX9_factor 88 = .ok (.imul, 1) := by decide +kernel
theorem dX9_factor_89 : decode cX9_factor 89 = .ok (.iload_n 2, 1) := by decide +kernel
theorem dX9_factor_90 : decode cX9_factor 90 = .ok (.iadd, 1) := by decide +kernel
theorem dX9_factor_91 : decode cX9_factor 91 = .ok (.iaload, 1) := by decide +kernel
theorem dX9_factor_92 : decode cX9_factor 92 = .ok (.iload 7, 2) := by decide +kernel
theorem dX9_factor_94 : decode cX9_factor 94 = .ok (.if_icmp .eq 7, 3) := by decide +kernel
theorem dX9_factor_97 : decode cX9_factor 97 = .ok (.iconst 1, 1) := by decide +kernel
theorem dX9_factor_98 : decode cX9_factor 98 = .ok (.goto 4, 3) := by decide +kernel
theorem dX9_factor_101 : decode cX9_factor 101 = .ok (.iconst 0, 1) := by decide +kernel
theorem dX9_factor_102 : decode cX9_factor 102 = .ok (.istore 8, 2) := by decide +kernel
theorem dX9_factor_104 : decode cX9_factor 104 = .ok (.aload_n 0, 1) := by decide +kernel
theorem dX9_factor_105 : decode cX9_factor 105 = .ok (.getfield 13, 3) := by decide +kernel
theorem dX9_factor_108 : decode cX9_factor 108 = .ok (.bipush 7, 2) := by decide +kernel
theorem dX9_factor_110 : decode cX9_factor 110 = .ok (.iload_n 1, 1) := by decide +kernel
theorem dX9_factor_111 : decode cX9_factor 111 = .ok (.imul, 1) := by decide +kernel
theorem dX9_factor_112 : decode cX9_factor 112 = .ok (.iload_n 2, 1) := by decide +kernel
theorem dX9_factor_113 : decode cX9_factor 113 = .ok (.iadd, 1) := by decide +kernel
theorem dX9_factor_114 : decode cX9_factor 114 = .ok (.iload 7, 2) := by decide +kernel
theorem dX9_factor_116 : decode cX9_factor 116 = .ok (.iastore, 1) := by decide +kernel
theorem dX9_factor_117 : decode cX9_factor 117 = .ok (.iload 8, 2) := by decide +kernel
theorem dX9_factor_119 : decode cX9_factor 119 = .ok (.ifCond .eq 8, 3) := by decide +kernel
theorem dX9_factor_122 : decode cX9_factor 122 = .ok (.aload_n 0, 1) := by decide +kernel
theorem dX9_factor_123 : decode cX9_factor 123 = .ok (.iconst 0, 1) := by decide +kernel
theorem dX9_factor_124 : decode cX9_factor 124 = .ok (.putfield 32, 3) := by decide +kernel
theorem dX9_factor_127 : decode cX9_factor 127 = .ok (.iload 8, 2) := by decide +kernel
theorem dX9_factor_129 : decode cX9_factor 129 = .ok (.ireturn, 1) := by decide +kernel
theorem dX9_right_0 : decode cX9_right 0 = .ok (.aload_n 0, 1) := by decide +kernel
theorem dX9_right_1 : decode cX9_right 1 = .ok (.iload_n 1, 1) := by decide +kernel
theorem dX9_right_2 : decode cX9_right 2 = .ok (.ifCond .lt 9, 3) := by decide +kernel
theorem dX9_right_5 : decode cX9_right 5 = .ok (.iload_n 1, 1) := by decide +kernel
theorem dX9_right_6 : decode cX9_right 6 = .ok (.bipush 10, 2) := by decide +kernel
theorem dX9_right_8 : decode cX9_right 8 = .ok (.if_icmp .le 7, 3) := by decide +kernel
theorem dX9_right_11 : decode cX9_right 11 = .ok (.iconst 1, 1) := by decide +kernel
theorem dX9_right_12 : decode cX9_right 12 = .ok (.goto 19, 3) := by decide +kernel
theorem dX9_right_15 : decode cX9_right 15 = .ok (.lload 4, 2) := by decide +kernel
theorem dX9_right_17 : decode cX9_right 17 = .ok (.ldc2_w 78, 3) := by decide +kernel
theorem dX9_right_20 : decode cX9_right 20 = .ok (.lrem, 1) := by decide +kernel
theorem dX9_right_21 : decode cX9_right 21 = .ok (.lconst 0, 1) := by decide +kernel
theorem dX9_right_22 : decode cX9_right 22 = .ok (.lcmp, 1) := by decide +kernel
theorem dX9_right_23 : decode cX9_right 23 = .ok (.ifCond .ne 7, 3) := by decide +kernel
theorem dX9_right_26 : decode cX9_right 26 = .ok (.iconst 2, 1) := by decide +kernel
theorem dX9_right_27 : decode cX9_right 27 = .ok (.goto 4, 3) := by decide +kernel
theorem dX9_right_30 : decode cX9_right 30 = .ok (.iconst 0, 1) := by decide +kernel
theorem dX9_right_31 : decode cX9_right 31 = .ok (.putfield 7, 3) := by decide +kernel
theorem dX9_right_34 : decode cX9_right 34 = .ok (.aload_n 0, 1) := by decide +kernel
theorem dX9_right_35 : decode cX9_right 35 = .ok (.getfield 7, 3) := by decide +kernel
theorem dX9_right_38 : decode cX9_right 38 = .ok (.ifCond .eq 5, 3) := by decide +kernel
theorem dX9_right_41 : decode cX9_right 41 = .ok (.iconst 0, 1) := by decide +kernel
theorem dX9_right_42 : decode cX9_right 42 = .ok (.ireturn, 1) := by decide +kernel
theorem dX9_right_43 : decode cX9_right 43 = .ok (.lload_n 2, 1) := by decide +kernel
theorem dX9_right_44 : decode cX9_right 44 = .ok (.invokestatic 95, 3) := by decide +kernel
theorem dX9_right_47 : decode cX9_right 47 = .ok (.i2l, 1) := by decide +kernel
theorem dX9_right_48 : decode cX9_right 48 = .ok (.lload 4, 2) := by decide +kernel
theorem dX9_right_50 : decode cX9_right 50 = .ok (.invokestatic 95, 3) := by decide +kernel
theorem dX9_right_53 : decode cX9_right 53 = .ok (.invokestatic 91, 3) := by decide +kernel
theorem dX9_right_56 : decode cX9_right 56 = .ok (.i2l, 1) := by decide +kernel
theorem dX9_right_57 : decode cX9_right 57 = .ok (.lmul, 1) := by decide +kernel
theorem dX9_right_58 : decode cX9_right 58 = .ok (.ldc2_w 78, 3) := by decide +kernel
theorem dX9_right_61 : decode cX9_right 61 = .ok (.lrem, 1) := by decide +kernel
theorem dX9_right_62 : decode cX9_right 62 = .ok (.l2i, 1) := by decide +kernel
theorem dX9_right_63 : decode cX9_right 63 = .ok (.istore 6, 2) := by decide +kernel
theorem dX9_right_65 : decode cX9_right 65 = .ok (.aload_n 0, 1) := by decide +kernel
theorem dX9_right_66 : decode cX9_right 66 = .ok (.getfield 17, 3) := by decide +kernel
theorem dX9_right_69 : decode cX9_right 69 = .ok (.iload_n 1, 1) := by decide +kernel
theorem dX9_right_70 : decode cX9_right 70 = .ok (.iaload, 1) := by decide +kernel
theorem dX9_right_71 : decode cX9_right 71 = .ok (.iload 6, 2) := by decide +kernel
theorem dX9_right_73 : decode cX9_right 73 = .ok (.if_icmp .eq 7, 3) := by decide +kernel
theorem dX9_right_76 : decode cX9_right 76 = .ok (.iconst 1, 1) := by decide +kernel
theorem dX9_right_77 : decode cX9_right 77 = .ok (.goto 4, 3) := by decide +kernel
theorem dX9_right_80 : decode cX9_right 80 = .ok (.iconst 0, 1) := by decide +kernel
theorem dX9_right_81 : decode cX9_right 81 = .ok (.istore 7, 2) := by decide +kernel
theorem dX9_right_83 : decode cX9_right 83 = .ok (.aload_n 0, 1) := by decide +kernel
theorem dX9_right_84 : decode cX9_right 84 = .ok (.getfield 17, 3) := by decide +kernel
theorem dX9_right_87 : decode cX9_right 87 = .ok (.iload_n 1, 1) := by decide +kernel
theorem dX9_right_88 : decode cX9_right 88 = .ok (.iload 6, 2) := by decide +kernel
theorem dX9_right_90 : decode cX9_right 90 = .ok (.iastore, 1) := by decide +kernel
theorem dX9_right_91 : decode cX9_right 91 = .ok (.iload 7, 2) := by decide +kernel
theorem dX9_right_93 : decode cX9_right 93 = .ok (.ifCond .eq 8, 3) := by decide +kernel
theorem dX9_right_96 : decode cX9_right 96 = .ok (.aload_n 0, 1) := by decide +kernel
theorem dX9_right_97 : decode cX9_right 97 = .ok (.iconst 0, 1) := by decide +kernel
theorem dX9_right_98 : decode cX9_right 98 = .ok (.putfield 32, 3) := by decide +kernel
theorem dX9_right_101 : decode cX9_right 101 = .ok (.iload 7, 2) := by decide +kernel
theorem dX9_right_103 : decode cX9_right 103 = .ok (.ireturn, 1) := by decide +kernel
theorem dX9_run_0 : decode cX9_run 0 = .ok (.aload_n 0, 1) := by decide +kernel
theorem dX9_run_1 : decode cX9_run 1 = .ok (.iconst 0, 1) := by decide +kernel
theorem dX9_run_2 : decode cX9_run 2 = .ok (.putfield 7, 3) := by decide +kernel
theorem dX9_run_5 : decode cX9_run 5 = .ok (.aload_n 0, 1) := by decide +kernel
theorem dX9_run_6 : decode cX9_run 6 = .ok (.iconst 0, 1) := by decide +kernel
theorem dX9_run_7 : decode cX9_run 7 = .ok (.putfield 32, 3) := by decide +kernel
theorem dX9_run_10 : decode cX9_run 10 = .ok (.aload_n 0, 1) := by decide +kernel
theorem dX9_run_11 : decode cX9_run 11 = .ok (.invokevirtual 99, 3) := by decide +kernel
theorem dX9_run_14 : decode cX9_run 14 = .ok (.ifCond .ge 5, 3) := by decide +kernel
theorem dX9_run_17 : decode cX9_run 17 = .ok (.iconst 1, 1) := by decide +kernel
theorem dX9_run_18 : decode cX9_run 18 = .ok (.ireturn, 1) := by decide +kernel
theorem dX9_run_19 : decode cX9_run 19 = .ok (.aload_n 0, 1) := by decide +kernel
theorem dX9_run_20 : decode cX9_run 20 = .ok (.iconst 1, 1) := by decide +kernel
theorem dX9_run_21 : decode cX9_run 21 = .ok (.invokevirtual 103, 3) := by decide +kernel
theorem dX9_run_24 : decode cX9_run 24 = .ok (.aload_n 0, 1) := by decide +kernel
theorem dX9_run_25 : decode cX9_run 25 = .ok (.invokevirtual 107, 3) := by decide +kernel
theorem dX9_run_28 : decode cX9_run 28 = .ok (.istore_n 1, 1) := by decide +kernel
theorem dX9_run_29 : decode cX9_run 29 = .ok (.aload_n 0, 1) := by decide +kernel
theorem dX9_run_30 : decode cX9_run 30 = .ok (.aload_n 0, 1) := by decide +kernel
theorem dX9_run_31 : decode cX9_run 31 = .ok (.aload_n 0, 1) := by decide +kernel
theorem dX9_run_32 : decode cX9_run 32 = .ok (.getfield 39, 3) := by decide +kernel
theorem dX9_run_35 : decode cX9_run 35 = .ok (.iconst 0, 1) := by decide +kernel
theorem dX9_run_36 : decode cX9_run 36 = .ok (.invokevirtual 110, 3) := by decide +kernel
theorem dX9_run_39 : decode cX9_run 39 = .ok (.putfield 36, 3) := by decide +kernel
theorem dX9_run_42 : decode cX9_run 42 = .ok (.aload_n 0, 1) := by decide +kernel
theorem dX9_run_43 : decode cX9_run 43 = .ok (.iconst 1, 1) := by decide +kernel
theorem dX9_run_44 : decode cX9_run 44 = .ok (.putfield 42, 3) := by decide +kernel
theorem dX9_run_47 : decode cX9_run 47 = .ok (.iload_n 1, 1) := by decide +kernel
theorem dX9_run_48 : decode cX9_run 48 = .ok (.istore_n 2, 1) := by decide +kernel
theorem dX9_run_49 : decode cX9_run 49 = .ok (.iload_n 2, 1) := by decide +kernel
theorem dX9_run_50 : decode cX9_run 50 = .ok (.bipush 19, 2) := by decide +kernel
theorem dX9_run_52 : decode cX9_run 52 = .ok (.if_icmp .ge 29, 3) := by decide +kernel
theorem dX9_run_55 : decode cX9_run 55 = .ok (.aload_n 0, 1) := by decide +kernel
theorem dX9_run_56 : decode cX9_run 56 = .ok (.getfield 60, 3) := by decide +kernel
theorem dX9_run_59 : decode cX9_run 59 = .ok (.bipush 14, 2) := by decide +kernel
theorem dX9_run_61 : decode cX9_run 61 = .ok (.iload_n 2, 1) := by decide +kernel
theorem dX9_run_62 : decode cX9_run 62 = .ok (.imul, 1) := by decide +kernel
theorem dX9_run_63 : decode cX9_run 63 = .ok (.bipush 13, 2) := by decide +kernel
theorem dX9_run_65 : decode cX9_run 65 = .ok (.iadd, 1) := by decide +kernel
theorem dX9_run_66 : decode cX9_run 66 = .ok (.iaload, 1) := by decide +kernel
theorem dX9_run_67 : decode cX9_run 67 = .ok (.ifCond .eq 8, 3) := by decide +kernel
theorem dX9_run_70 : decode cX9_run 70 = .ok (.aload_n 0, 1) := by decide +kernel
theorem dX9_run_71 : decode cX9_run 71 = .ok (.iconst 0, 1) := by decide +kernel
theorem dX9_run_72 : decode cX9_run 72 = .ok (.putfield 42, 3) := by decide +kernel
theorem dX9_run_75 : decode cX9_run 75 = .ok (.iinc 2 1, 3) := by decide +kernel
theorem dX9_run_78 : decode cX9_run 78 = .ok (.goto (-29), 3) := by decide +kernel
theorem dX9_run_81 : decode cX9_run 81 = .ok (.iconst 0, 1) := by decide +kernel
theorem dX9_run_82 : decode cX9_run 82 = .ok (.istore_n 2, 1) := by decide +kernel
theorem dX9_run_83 : decode cX9_run 83 = .ok (.iload_n 2, 1) := by decide +kernel
theorem dX9_run_84 : decode cX9_run 84 = .ok (.bipush 13, 2) := by decide +kernel
theorem dX9_run_86 : decode cX9_run 86 = .ok (.if_icmp .ge 51, 3) := by decide +kernel
theorem dX9_run_89 : decode cX9_run 89 = .ok (.aload_n 0, 1) := by decide +kernel
theorem dX9_run_90 : decode cX9_run 90 = .ok (.getfield 45, 3) := by decide +kernel
theorem dX9_run_93 : decode cX9_run 93 = .ok (.iload_n 2, 1) := by decide +kernel
theorem dX9_run_94 : decode cX9_run 94 = .ok (.aload_n 0, 1) := by decide +kernel
theorem dX9_run_95 : decode cX9_run 95 = .ok (.getfield 69, 3) := by decide +kernel
theorem dX9_run_98 : decode cX9_run 98 = .ok (.bipush 12, 2) := by decide +kernel
theorem dX9_run_100 : decode cX9_run 100 = .ok (.iload_n 2, 1) := by decide +kernel
theorem dX9_run_101 : decode cX9_run 101 = .ok (.isub, 1) := by decide +kernel
theorem dX9_run_102 : decode cX9_run 102 = .ok (.iaload, 1) := by decide +kernel
theorem dX9_run_103 : decode cX9_run 103 = .ok (.ifCond .ge 7, 3) := by decide +kernel
theorem dX9_run_106 : decode cX9_run 106 = .ok (.iconst 0, 1) := by decide +kernel
theorem dX9_run_107 : decode cX9_run 107 = .ok (.goto 23, 3) := by decide +kernel
theorem dX9_run_110 : decode cX9_run 110 = .ok (.aload_n 0, 1) := by decide +kernel
theorem dX9_run_111 : decode cX9_run 111 = .ok (.getfield 60, 3) := by decide +kernel
theorem dX9_run_114 : decode cX9_run 114 = .ok (.bipush 14, 2) := by decide +kernel
theorem dX9_run_116 : decode cX9_run 116 = .ok (.aload_n 0, 1) := by decide +kernel
theorem dX9_run_117 : decode cX9_run 117 = .ok (.getfield 69, 3) := by decide +kernel
theorem dX9_run_120 : decode cX9_run 120 = .ok (.bipush 12, 2) := by decide +kernel
theorem dX9_run_122 : decode cX9_run 122 = .ok (.iload_n 2, 1) := by decide +kernel
theorem dX9_run_123 : decode cX9_run 123 = .ok (.isub, 1) := by decide +kernel
theorem dX9_run_124 : decode cX9_run 124 = .ok (.iaload, 1) := by decide +kernel
theorem dX9_run_125 : decode cX9_run 125 = .ok (.imul, 1) := by decide +kernel
theorem dX9_run_126 : decode cX9_run 126 = .ok (.bipush 13, 2) := by decide +kernel
theorem dX9_run_128 : decode cX9_run 128 = .ok (.iadd, 1) := by decide +kernel
theorem dX9_run_129 : decode cX9_run 129 = .ok (.iaload, 1) := by decide +kernel
theorem dX9_run_130 : decode cX9_run 130 = .ok (.iastore, 1) := by decide +kernel
theorem dX9_run_131 : decode cX9_run 131 = .ok (.iinc 2 1, 3) := by decide +kernel
theorem dX9_run_134 : decode cX9_run 134 = .ok (.goto (-51), 3) := by decide +kernel
theorem dX9_run_137 : decode cX9_run 137 = .ok (.aload_n 0, 1) := by decide +kernel
theorem dX9_run_138 : decode cX9_run 138 = .ok (.iconst 0, 1) := by decide +kernel
theorem dX9_run_139 : decode cX9_run 139 = .ok (.putfield 48, 3) := by decide +kernel
theorem dX9_run_142 : decode cX9_run 142 = .ok (.aload_n 0, 1) := by decide +kernel
theorem dX9_run_143 : decode cX9_run 143 = .ok (.invokevirtual 114, 3) := by decide +kernel
theorem dX9_run_146 : decode cX9_run 146 = .ok (.istore_n 2, 1) := by decide +kernel
theorem dX9_run_147 : decode cX9_run 147 = .ok (.iconst 1, 1) := by decide +kernel
theorem dX9_run_148 : decode cX9_run 148 = .ok (.istore_n 3, 1) := by decide +kernel
theorem dX9_run_149 : decode cX9_run 149 = .ok (.iload_n 3, 1) := by decide +kernel
theorem dX9_run_150 : decode cX9_run 150 = .ok (.sipush 32003, 3) := by decide +kernel
theorem dX9_run_153 : decode cX9_run 153 = .ok (.if_icmp .ge 125, 3) := by decide +kernel
theorem dX9_run_156 : decode cX9_run 156 = .ok (.lconst 0, 1) := by decide +kernel
theorem dX9_run_157 : decode cX9_run 157 = .ok (.lstore 4, 2) := by decide +kernel
theorem dX9_run_159 : decode cX9_run 159 = .ok (.aload_n 0, 1) := by decide +kernel
theorem dX9_run_160 : decode cX9_run 160 = .ok (.getfield 75, 3) := by decide +kernel
theorem dX9_run_163 : decode cX9_run 163 = .ok (.istore 6, 2) := by decide +kernel
theorem dX9_run_165 : decode cX9_run 165 = .ok (.iload 6, 2) := by decide +kernel
theorem dX9_run_167 : decode cX9_run 167 = .ok (.ifCond .lt 34, 3) := by decide +kernel
theorem dX9_run_170 : decode cX9_run 170 = .ok (.lload 4, 2) := by decide +kernel
theorem dX9_run_172 : decode cX9_run 172 = .ok (.iload_n 3, 1) := by decide +kernel
theorem dX9_run_173 : decode cX9_run 173 = .ok (.i2l, 1) := by decide +kernel
theorem dX9_run_174 : decode cX9_run 174 = .ok (.lmul, 1) := by decide +kernel
theorem dX9_run_175 : decode cX9_run 175 = .ok (.aload_n 0, 1) := by decide +kernel
theorem dX9_run_176 : decode cX9_run 176 = .ok (.getfield 13, 3) := by decide +kernel
theorem dX9_run_179 : decode cX9_run 179 = .ok (.bipush 7, 2) := by decide +kernel
theorem dX9_run_181 : decode cX9_run 181 = .ok (.iload 6, 2) := by decide +kernel
theorem dX9_run_183 : decode cX9_run 183 = .ok (.imul, 1) := by decide +kernel
theorem dX9_run_184 : decode cX9_run 184 = .ok (.iload_n 2, 1) := by decide +kernel
theorem dX9_run_185 : decode cX9_run 185 = .ok (.iadd, 1) := by decide +kernel
theorem dX9_run_186 : decode cX9_run 186 = .ok (.iaload, 1) := by decide +kernel
theorem dX9_run_187 : decode cX9_run 187 = .ok (.i2l, 1) := by decide +kernel
theorem dX9_run_188 : decode cX9_run 188 = .ok (.ladd, 1) := by decide +kernel
theorem dX9_run_189 : decode cX9_run 189 = .ok (.ldc2_w 78, 3) := by decide +kernel
theorem dX9_run_192 : decode cX9_run 192 = .ok (.lrem, 1) := by decide +kernel
theorem dX9_run_193 : decode cX9_run 193 = .ok (.lstore 4, 2) := by decide +kernel
theorem dX9_run_195 : decode cX9_run 195 = .ok (.iinc 6 (-1), 3) := by decide +kernel
theorem dX9_run_198 : decode cX9_run 198 = .ok (.goto (-33), 3) := by decide +kernel
theorem dX9_run_201 : decode cX9_run 201 = .ok (.lload 4, 2) := by decide +kernel
theorem dX9_run_203 : decode cX9_run 203 = .ok (.lconst 0, 1) := by decide +kernel
theorem dX9_run_204 : decode cX9_run 204 = .ok (.lcmp, 1) := by decide +kernel
theorem dX9_run_205 : decode cX9_run 205 = .ok (.ifCond .ne 67, 3) := by decide +kernel
theorem dX9_run_208 : decode cX9_run 208 = .ok (.aload_n 0, 1) := by decide +kernel
theorem dX9_run_209 : decode cX9_run 209 = .ok (.iload_n 3, 1) := by decide +kernel
theorem dX9_run_210 : decode cX9_run 210 = .ok (.invokevirtual 103, 3) := by decide +kernel
theorem dX9_run_213 : decode cX9_run 213 = .ok (.aload_n 0, 1) := by decide +kernel
theorem dX9_run_214 : decode cX9_run 214 = .ok (.invokevirtual 107, 3) := by decide +kernel
theorem dX9_run_217 : decode cX9_run 217 = .ok (.pop, 1) := by decide +kernel
theorem dX9_run_218 : decode cX9_run 218 = .ok (.aload_n 0, 1) := by decide +kernel
theorem dX9_run_219 : decode cX9_run 219 = .ok (.aload_n 0, 1) := by decide +kernel
theorem dX9_run_220 : decode cX9_run 220 = .ok (.getfield 57, 3) := by decide +kernel
theorem dX9_run_223 : decode cX9_run 223 = .ok (.sipush 169, 3) := by decide +kernel
theorem dX9_run_226 : decode cX9_run 226 = .ok (.aload_n 0, 1) := by decide +kernel
theorem dX9_run_227 : decode cX9_run 227 = .ok (.getfield 48, 3) := by decide +kernel
theorem dX9_run_230 : decode cX9_run 230 = .ok (.imul, 1) := by decide +kernel
theorem dX9_run_231 : decode cX9_run 231 = .ok (.invokevirtual 110, 3) := by decide +kernel
theorem dX9_run_234 : decode cX9_run 234 = .ok (.istore 6, 2) := by decide +kernel
theorem dX9_run_236 : decode cX9_run 236 = .ok (.iload 6, 2) := by decide +kernel
theorem dX9_run_238 : decode cX9_run 238 = .ok (.ifCond .le 34, 3) := by decide +kernel
theorem dX9_run_241 : decode cX9_run 241 = .ok (.aload_n 0, 1) := by decide +kernel
theorem dX9_run_242 : decode cX9_run 242 = .ok (.getfield 51, 3) := by decide +kernel
theorem dX9_run_245 : decode cX9_run 245 = .ok (.aload_n 0, 1) := by decide +kernel
theorem dX9_run_246 : decode cX9_run 246 = .ok (.getfield 48, 3) := by decide +kernel
theorem dX9_run_249 : decode cX9_run 249 = .ok (.iload_n 3, 1) := by decide +kernel
theorem dX9_run_250 : decode cX9_run 250 = .ok (.iastore, 1) := by decide +kernel
theorem dX9_run_251 : decode cX9_run 251 = .ok (.aload_n 0, 1) := by decide +kernel
theorem dX9_run_252 : decode cX9_run 252 = .ok (.getfield 54, 3) := by decide +kernel
theorem dX9_run_255 : decode cX9_run 255 = .ok (.aload_n 0, 1) := by decide +kernel
theorem dX9_run_256 : decode cX9_run 256 = .ok (.getfield 48, 3) := by decide +kernel
theorem dX9_run_259 : decode cX9_run 259 = .ok (.iload 6, 2) := by decide +kernel
theorem dX9_run_261 : decode cX9_run 261 = .ok (.iastore, 1) := by decide +kernel
theorem dX9_run_262 : decode cX9_run 262 = .ok (.aload_n 0, 1) := by decide +kernel
theorem dX9_run_263 : decode cX9_run 263 = .ok (.dup, 1) := by decide +kernel
theorem dX9_run_264 : decode cX9_run 264 = .ok (.getfield 48, 3) := by decide +kernel
theorem dX9_run_267 : decode cX9_run 267 = .ok (.iconst 1, 1) := by decide +kernel
theorem dX9_run_268 : decode cX9_run 268 = .ok (.iadd, 1) := by decide +kernel
theorem dX9_run_269 : decode cX9_run 269 = .ok (.putfield 48, 3) := by decide +kernel
theorem dX9_run_272 : decode cX9_run 272 = .ok (.iinc 3 1, 3) := by decide +kernel
theorem dX9_run_275 : decode cX9_run 275 = .ok (.goto (-126), 3) := by decide +kernel
theorem dX9_run_278 : decode cX9_run 278 = .ok (.aload_n 0, 1) := by decide +kernel
theorem dX9_run_279 : decode cX9_run 279 = .ok (.iconst 1, 1) := by decide +kernel
theorem dX9_run_280 : decode cX9_run 280 = .ok (.putfield 32, 3) := by decide +kernel
theorem dX9_run_283 : decode cX9_run 283 = .ok (.iconst 0, 1) := by decide +kernel
theorem dX9_run_284 : decode cX9_run 284 = .ok (.ireturn, 1) := by decide +kernel
theorem dX9_unknown_0 : decode cX9_unknown 0 = .ok (.aload_n 0, 1) := by decide +kernel
theorem dX9_unknown_1 : decode cX9_unknown 1 = .ok (.aload_n 0, 1) := by decide +kernel
theorem dX9_unknown_2 : decode cX9_unknown 2 = .ok (.getfield 32, 3) := by decide +kernel
theorem dX9_unknown_5 : decode cX9_unknown 5 = .ok (.ifCond .eq 7, 3) := by decide +kernel
theorem dX9_unknown_8 : decode cX9_unknown 8 = .ok (.iconst 0, 1) := by decide +kernel
theorem dX9_unknown_9 : decode cX9_unknown 9 = .ok (.goto 4, 3) := by decide +kernel
theorem dX9_unknown_12 : decode cX9_unknown 12 = .ok (.iconst 1, 1) := by decide +kernel
theorem dX9_unknown_13 : decode cX9_unknown 13 = .ok (.putfield 7, 3) := by decide +kernel
theorem dX9_unknown_16 : decode cX9_unknown 16 = .ok (.aload_n 0, 1) := by decide +kernel
theorem dX9_unknown_17 : decode cX9_unknown 17 = .ok (.getfield 32, 3) := by decide +kernel
theorem dX9_unknown_20 : decode cX9_unknown 20 = .ok (.ifCond .ne 7, 3) := by decide +kernel
theorem dX9_unknown_23 : decode cX9_unknown 23 = .ok (.iconst 1, 1) := by decide +kernel
theorem dX9_unknown_24 : decode cX9_unknown 24 = .ok (.goto 4, 3) := by decide +kernel
theorem dX9_unknown_27 : decode cX9_unknown 27 = .ok (.iconst 0, 1) := by decide +kernel
theorem dX9_unknown_28 : decode cX9_unknown 28 = .ok (.ireturn, 1) := by decide +kernel
theorem dX9_polynomials_0 : decode cX9_polynomials 0 = .ok (.aload_n 0, 1) := by decide +kernel
theorem dX9_polynomials_1 : decode cX9_polynomials 1 = .ok (.invokevirtual 117, 3) := by decide +kernel
theorem dX9_polynomials_4 : decode cX9_polynomials 4 = .ok (.ifCond .eq 7, 3) := by decide +kernel
theorem dX9_polynomials_7 : decode cX9_polynomials 7 = .ok (.iconst 0, 1) := by decide +kernel
theorem dX9_polynomials_8 : decode cX9_polynomials 8 = .ok (.goto 7, 3) := by decide +kernel
theorem dX9_polynomials_11 : decode cX9_polynomials 11 = .ok (.aload_n 0, 1) := by decide +kernel
theorem dX9_polynomials_12 : decode cX9_polynomials 12 = .ok (.getfield 36, 3) := by decide +kernel
theorem dX9_polynomials_15 : decode cX9_polynomials 15 = .ok (.ireturn, 1) := by decide +kernel
theorem dX9_answer_0 : decode cX9_answer 0 = .ok (.aload_n 0, 1) := by decide +kernel
theorem dX9_answer_1 : decode cX9_answer 1 = .ok (.invokevirtual 117, 3) := by decide +kernel
theorem dX9_answer_4 : decode cX9_answer 4 = .ok (.ifCond .eq 5, 3) := by decide +kernel
theorem dX9_answer_7 : decode cX9_answer 7 = .ok (.iconst 0, 1) := by decide +kernel
theorem dX9_answer_8 : decode cX9_answer 8 = .ok (.ireturn, 1) := by decide +kernel
theorem dX9_answer_9 : decode cX9_answer 9 = .ok (.aload_n 0, 1) := by decide +kernel
theorem dX9_answer_10 : decode cX9_answer 10 = .ok (.iload_n 1, 1) := by decide +kernel
theorem dX9_answer_11 : decode cX9_answer 11 = .ok (.iconst (-1), 1) := by decide +kernel
theorem dX9_answer_12 : decode cX9_answer 12 = .ok (.if_icmp .lt 33, 3) := by decide +kernel
theorem dX9_answer_15 : decode cX9_answer 15 = .ok (.iload_n 1, 1) := by decide +kernel
theorem dX9_answer_16 : decode cX9_answer 16 = .ok (.aload_n 0, 1) := by decide +kernel
theorem dX9_answer_17 : decode cX9_answer 17 = .ok (.getfield 36, 3) := by decide +kernel
theorem dX9_answer_20 : decode cX9_answer 20 = .ok (.if_icmp .ge 25, 3) := by decide +kernel
theorem dX9_answer_23 : decode cX9_answer 23 = .ok (.iload_n 1, 1) := by decide +kernel
theorem dX9_answer_24 : decode cX9_answer 24 = .ok (.iconst (-1), 1) := by decide +kernel
theorem dX9_answer_25 : decode cX9_answer 25 = .ok (.if_icmp .ne 10, 3) := by decide +kernel
theorem dX9_answer_28 : decode cX9_answer 28 = .ok (.aload_n 0, 1) := by decide +kernel
theorem dX9_answer_29 : decode cX9_answer 29 = .ok (.getfield 42, 3) := by decide +kernel
theorem dX9_answer_32 : decode cX9_answer 32 = .ok (.ifCond .eq 13, 3) := by decide +kernel
theorem dX9_answer_35 : decode cX9_answer 35 = .ok (.iload_n 2, 1) := by decide +kernel
theorem dX9_answer_36 : decode cX9_answer 36 = .ok (.ifCond .lt 9, 3) := by decide +kernel
theorem dX9_answer_39 : decode cX9_answer 39 = .ok (.iload_n 2, 1) := by decide +kernel
theorem dX9_answer_40 : decode cX9_answer 40 = .ok (.bipush 12, 2) := by decide +kernel
theorem dX9_answer_42 : decode cX9_answer 42 = .ok (.if_icmp .le 7, 3) := by decide +kernel
theorem dX9_answer_45 : decode cX9_answer 45 = .ok (.iconst 2, 1) := by decide +kernel
theorem dX9_answer_46 : decode cX9_answer 46 = .ok (.goto 4, 3) := by decide +kernel
theorem dX9_answer_49 : decode cX9_answer 49 = .ok (.iconst 0, 1) := by decide +kernel
theorem dX9_answer_50 : decode cX9_answer 50 = .ok (.putfield 7, 3) := by decide +kernel
theorem dX9_answer_53 : decode cX9_answer 53 = .ok (.aload_n 0, 1) := by decide +kernel
theorem dX9_answer_54 : decode cX9_answer 54 = .ok (.getfield 7, 3) := by decide +kernel
theorem dX9_answer_57 : decode cX9_answer 57 = .ok (.ifCond .eq 5, 3) := by decide +kernel
theorem dX9_answer_60 : decode cX9_answer 60 = .ok (.iconst 0, 1) := by decide +kernel
theorem dX9_answer_61 : decode cX9_answer 61 = .ok (.ireturn, 1) := by decide +kernel
theorem dX9_answer_62 : decode cX9_answer 62 = .ok (.iload_n 1, 1) := by decide +kernel
theorem dX9_answer_63 : decode cX9_answer 63 = .ok (.ifCond .ge 12, 3) := by decide +kernel
theorem dX9_answer_66 : decode cX9_answer 66 = .ok (.aload_n 0, 1) := by decide +kernel
theorem dX9_answer_67 : decode cX9_answer 67 = .ok (.getfield 45, 3) := by decide +kernel
theorem dX9_answer_70 : decode cX9_answer 70 = .ok (.iload_n 2, 1) := by decide +kernel
theorem dX9_answer_71 : decode cX9_answer 71 = .ok (.iaload, 1) := by decide +kernel
theorem dX9_answer_72 : decode cX9_answer 72 = .ok (.goto 14, 3) := by decide +kernel
theorem dX9_answer_75 : decode cX9_answer 75 = .ok (.aload_n 0, 1) := by decide +kernel
theorem dX9_answer_76 : decode cX9_answer 76 = .ok (.getfield 39, 3) := by decide +kernel
theorem dX9_answer_79 : decode cX9_answer 79 = .ok (.bipush 13, 2) := by decide +kernel
theorem dX9_answer_81 : decode cX9_answer 81 = .ok (.iload_n 1, 1) := by decide +kernel
theorem dX9_answer_82 : decode cX9_answer 82 = .ok (.imul, 1) := by decide +kernel
theorem dX9_answer_83 : decode cX9_answer 83 = .ok (.iload_n 2, 1) := by decide +kernel
theorem dX9_answer_84 : decode cX9_answer 84 = .ok (.iadd, 1) := by decide +kernel
theorem dX9_answer_85 : decode cX9_answer 85 = .ok (.iaload, 1) := by decide +kernel
theorem dX9_answer_86 : decode cX9_answer 86 = .ok (.ireturn, 1) := by decide +kernel
theorem dX9_meets_0 : decode cX9_meets 0 = .ok (.aload_n 0, 1) := by decide +kernel
theorem dX9_meets_1 : decode cX9_meets 1 = .ok (.invokevirtual 117, 3) := by decide +kernel
theorem dX9_meets_4 : decode cX9_meets 4 = .ok (.ifCond .ne 14, 3) := by decide +kernel
theorem dX9_meets_7 : decode cX9_meets 7 = .ok (.aload_n 0, 1) := by decide +kernel
theorem dX9_meets_8 : decode cX9_meets 8 = .ok (.getfield 42, 3) := by decide +kernel
theorem dX9_meets_11 : decode cX9_meets 11 = .ok (.ifCond .eq 7, 3) := by decide +kernel
theorem dX9_meets_14 : decode cX9_meets 14 = .ok (.iconst 1, 1) := by decide +kernel
theorem dX9_meets_15 : decode cX9_meets 15 = .ok (.goto 4, 3) := by decide +kernel
theorem dX9_meets_18 : decode cX9_meets 18 = .ok (.iconst 0, 1) := by decide +kernel
theorem dX9_meets_19 : decode cX9_meets 19 = .ok (.ireturn, 1) := by decide +kernel
theorem dX9_powers_0 : decode cX9_powers 0 = .ok (.aload_n 0, 1) := by decide +kernel
theorem dX9_powers_1 : decode cX9_powers 1 = .ok (.invokevirtual 117, 3) := by decide +kernel
theorem dX9_powers_4 : decode cX9_powers 4 = .ok (.ifCond .eq 7, 3) := by decide +kernel
theorem dX9_powers_7 : decode cX9_powers 7 = .ok (.iconst 0, 1) := by decide +kernel
theorem dX9_powers_8 : decode cX9_powers 8 = .ok (.goto 7, 3) := by decide +kernel
theorem dX9_powers_11 : decode cX9_powers 11 = .ok (.aload_n 0, 1) := by decide +kernel
theorem dX9_powers_12 : decode cX9_powers 12 = .ok (.getfield 48, 3) := by decide +kernel
theorem dX9_powers_15 : decode cX9_powers 15 = .ok (.ireturn, 1) := by decide +kernel
theorem dX9_base_0 : decode cX9_base 0 = .ok (.aload_n 0, 1) := by decide +kernel
theorem dX9_base_1 : decode cX9_base 1 = .ok (.invokevirtual 117, 3) := by decide +kernel
theorem dX9_base_4 : decode cX9_base 4 = .ok (.ifCond .eq 7, 3) := by decide +kernel
theorem dX9_base_7 : decode cX9_base 7 = .ok (.iconst 0, 1) := by decide +kernel
theorem dX9_base_8 : decode cX9_base 8 = .ok (.goto 25, 3) := by decide +kernel
theorem dX9_base_11 : decode cX9_base 11 = .ok (.iload_n 1, 1) := by decide +kernel
theorem dX9_base_12 : decode cX9_base 12 = .ok (.ifCond .lt 11, 3) := by decide +kernel
theorem dX9_base_15 : decode cX9_base 15 = .ok (.iload_n 1, 1) := by decide +kernel
theorem dX9_base_16 : decode cX9_base 16 = .ok (.aload_n 0, 1) := by decide +kernel
theorem dX9_base_17 : decode cX9_base 17 = .ok (.getfield 48, 3) := by decide +kernel
theorem dX9_base_20 : decode cX9_base 20 = .ok (.if_icmp .lt 7, 3) := by decide +kernel
theorem dX9_base_23 : decode cX9_base 23 = .ok (.iconst (-1), 1) := by decide +kernel
theorem dX9_base_24 : decode cX9_base 24 = .ok (.goto 9, 3) := by decide +kernel
theorem dX9_base_27 : decode cX9_base 27 = .ok (.aload_n 0, 1) := by decide +kernel
theorem dX9_base_28 : decode cX9_base 28 = .ok (.getfield 51, 3) := by decide +kernel
theorem dX9_base_31 : decode cX9_base 31 = .ok (.iload_n 1, 1) := by decide +kernel
theorem dX9_base_32 : decode cX9_base 32 = .ok (.iaload, 1) := by decide +kernel
theorem dX9_base_33 : decode cX9_base 33 = .ok (.ireturn, 1) := by decide +kernel
theorem dX9_many_0 : decode cX9_many 0 = .ok (.aload_n 0, 1) := by decide +kernel
theorem dX9_many_1 : decode cX9_many 1 = .ok (.invokevirtual 117, 3) := by decide +kernel
theorem dX9_many_4 : decode cX9_many 4 = .ok (.ifCond .eq 7, 3) := by decide +kernel
theorem dX9_many_7 : decode cX9_many 7 = .ok (.iconst 0, 1) := by decide +kernel
theorem dX9_many_8 : decode cX9_many 8 = .ok (.goto 25, 3) := by decide +kernel
theorem dX9_many_11 : decode cX9_many 11 = .ok (.iload_n 1, 1) := by decide +kernel
theorem dX9_many_12 : decode cX9_many 12 = .ok (.ifCond .lt 11, 3) := by decide +kernel
theorem dX9_many_15 : decode cX9_many 15 = .ok (.iload_n 1, 1) := by decide +kernel
theorem dX9_many_16 : decode cX9_many 16 = .ok (.aload_n 0, 1) := by decide +kernel
theorem dX9_many_17 : decode cX9_many 17 = .ok (.getfield 48, 3) := by decide +kernel
theorem dX9_many_20 : decode cX9_many 20 = .ok (.if_icmp .lt 7, 3) := by decide +kernel
theorem dX9_many_23 : decode cX9_many 23 = .ok (.iconst (-1), 1) := by decide +kernel
theorem dX9_many_24 : decode cX9_many 24 = .ok (.goto 9, 3) := by decide +kernel
theorem dX9_many_27 : decode cX9_many 27 = .ok (.aload_n 0, 1) := by decide +kernel
theorem dX9_many_28 : decode cX9_many 28 = .ok (.getfield 54, 3) := by decide +kernel
theorem dX9_many_31 : decode cX9_many 31 = .ok (.iload_n 1, 1) := by decide +kernel
theorem dX9_many_32 : decode cX9_many 32 = .ok (.iaload, 1) := by decide +kernel
theorem dX9_many_33 : decode cX9_many 33 = .ok (.ireturn, 1) := by decide +kernel
theorem dX9_times_0 : decode cX9_times 0 = .ok (.aload_n 0, 1) := by decide +kernel
theorem dX9_times_1 : decode cX9_times 1 = .ok (.invokevirtual 117, 3) := by decide +kernel
theorem dX9_times_4 : decode cX9_times 4 = .ok (.ifCond .eq 5, 3) := by decide +kernel
theorem dX9_times_7 : decode cX9_times 7 = .ok (.iconst 0, 1) := by decide +kernel
theorem dX9_times_8 : decode cX9_times 8 = .ok (.ireturn, 1) := by decide +kernel
theorem dX9_times_9 : decode cX9_times 9 = .ok (.iload_n 1, 1) := by decide +kernel
theorem dX9_times_10 : decode cX9_times 10 = .ok (.ifCond .lt 25, 3) := by decide +kernel
theorem dX9_times_13 : decode cX9_times 13 = .ok (.iload_n 1, 1) := by decide +kernel
theorem dX9_times_14 : decode cX9_times 14 = .ok (.aload_n 0, 1) := by decide +kernel
theorem dX9_times_15 : decode cX9_times 15 = .ok (.getfield 48, 3) := by decide +kernel
theorem dX9_times_18 : decode cX9_times 18 = .ok (.if_icmp .ge 17, 3) := by decide +kernel
theorem dX9_times_21 : decode cX9_times 21 = .ok (.iload_n 3, 1) := by decide +kernel
theorem dX9_times_22 : decode cX9_times 22 = .ok (.ifCond .lt 13, 3) := by decide +kernel
theorem dX9_times_25 : decode cX9_times 25 = .ok (.iload_n 3, 1) := by decide +kernel
theorem dX9_times_26 : decode cX9_times 26 = .ok (.bipush 12, 2) := by decide +kernel
theorem dX9_times_28 : decode cX9_times 28 = .ok (.if_icmp .gt 7, 3) := by decide +kernel
theorem dX9_times_31 : decode cX9_times 31 = .ok (.iload_n 2, 1) := by decide +kernel
theorem dX9_times_32 : decode cX9_times 32 = .ok (.ifCond .ge 7, 3) := by decide +kernel
theorem dX9_times_35 : decode cX9_times 35 = .ok (.iconst 1, 1) := by decide +kernel
theorem dX9_times_36 : decode cX9_times 36 = .ok (.goto 4, 3) := by decide +kernel
theorem dX9_times_39 : decode cX9_times 39 = .ok (.iconst 0, 1) := by decide +kernel
theorem dX9_times_40 : decode cX9_times 40 = .ok (.istore 4, 2) := by decide +kernel
theorem dX9_times_42 : decode cX9_times 42 = .ok (.iload 4, 2) := by decide +kernel
theorem dX9_times_44 : decode cX9_times 44 = .ok (.ifCond .ne 20, 3) := by decide +kernel
theorem dX9_times_47 : decode cX9_times 47 = .ok (.iload_n 2, 1) := by decide +kernel
theorem dX9_times_48 : decode cX9_times 48 = .ok (.aload_n 0, 1) := by decide +kernel
theorem dX9_times_49 : decode cX9_times 49 = .ok (.getfield 54, 3) := by decide +kernel
theorem dX9_times_52 : decode cX9_times 52 = .ok (.iload_n 1, 1) := by decide +kernel
theorem dX9_times_53 : decode cX9_times 53 = .ok (.iaload, 1) := by decide +kernel
theorem dX9_times_54 : decode cX9_times 54 = .ok (.if_icmp .lt 7, 3) := by decide +kernel
theorem dX9_times_57 : decode cX9_times 57 = .ok (.iconst 1, 1) := by decide +kernel
theorem dX9_times_58 : decode cX9_times 58 = .ok (.goto 4, 3) := by decide +kernel
theorem dX9_times_61 : decode cX9_times 61 = .ok (.iconst 0, 1) := by decide +kernel
theorem dX9_times_62 : decode cX9_times 62 = .ok (.istore 4, 2) := by decide +kernel
theorem dX9_times_64 : decode cX9_times 64 = .ok (.aload_n 0, 1) := by decide +kernel
theorem dX9_times_65 : decode cX9_times 65 = .ok (.iload 4, 2) := by decide +kernel
theorem dX9_times_67 : decode cX9_times 67 = .ok (.ifCond .eq 7, 3) := by decide +kernel
theorem dX9_times_70 : decode cX9_times 70 = .ok (.iconst 2, 1) := by decide +kernel
theorem dX9_times_71 : decode cX9_times 71 = .ok (.goto 4, 3) := by decide +kernel
theorem dX9_times_74 : decode cX9_times 74 = .ok (.iconst 0, 1) := by decide +kernel
theorem dX9_times_75 : decode cX9_times 75 = .ok (.putfield 7, 3) := by decide +kernel
theorem dX9_times_78 : decode cX9_times 78 = .ok (.iload 4, 2) := by decide +kernel
theorem dX9_times_80 : decode cX9_times 80 = .ok (.ifCond .eq 7, 3) := by decide +kernel
theorem dX9_times_83 : decode cX9_times 83 = .ok (.iconst 0, 1) := by decide +kernel
theorem dX9_times_84 : decode cX9_times 84 = .ok (.goto 20, 3) := by decide +kernel
theorem dX9_times_87 : decode cX9_times 87 = .ok (.aload_n 0, 1) := by decide +kernel
theorem dX9_times_88 : decode cX9_times 88 = .ok (.getfield 57, 3) := by decide +kernel
theorem dX9_times_91 : decode cX9_times 91 = .ok (.sipush 169, 3) := by decide +kernel
theorem dX9_times_94 : decode cX9_times 94 = .ok (.iload_n 1, 1) := by decide +kernel
theorem dX9_times_95 : decode cX9_times 95 = .ok (.imul, 1) := by decide +kernel
theorem dX9_times_96 : decode cX9_times 96 = .ok (.bipush 13, 2) := by decide +kernel
theorem dX9_times_98 : decode cX9_times 98 = .ok (.iload_n 2, 1) := by decide +kernel
theorem dX9_times_99 : decode cX9_times 99 = .ok (.imul, 1) := by decide +kernel
theorem dX9_times_100 : decode cX9_times 100 = .ok (.iadd, 1) := by decide +kernel
theorem dX9_times_101 : decode cX9_times 101 = .ok (.iload_n 3, 1) := by decide +kernel
theorem dX9_times_102 : decode cX9_times 102 = .ok (.iadd, 1) := by decide +kernel
theorem dX9_times_103 : decode cX9_times 103 = .ok (.iaload, 1) := by decide +kernel
theorem dX9_times_104 : decode cX9_times 104 = .ok (.ireturn, 1) := by decide +kernel
theorem dX9_start_0 : decode cX9_start 0 = .ok (.aload_n 0, 1) := by decide +kernel
theorem dX9_start_1 : decode cX9_start 1 = .ok (.iconst 0, 1) := by decide +kernel
theorem dX9_start_2 : decode cX9_start 2 = .ok (.putfield 7, 3) := by decide +kernel
theorem dX9_start_5 : decode cX9_start 5 = .ok (.aload_n 0, 1) := by decide +kernel
theorem dX9_start_6 : decode cX9_start 6 = .ok (.getfield 23, 3) := by decide +kernel
theorem dX9_start_9 : decode cX9_start 9 = .ok (.bipush 12, 2) := by decide +kernel
theorem dX9_start_11 : decode cX9_start 11 = .ok (.if_icmp .ne 5, 3) := by decide +kernel
theorem dX9_start_14 : decode cX9_start 14 = .ok (.iconst 0, 1) := by decide +kernel
theorem dX9_start_15 : decode cX9_start 15 = .ok (.ireturn, 1) := by decide +kernel
theorem dX9_start_16 : decode cX9_start 16 = .ok (.aload_n 0, 1) := by decide +kernel
theorem dX9_start_17 : decode cX9_start 17 = .ok (.getfield 20, 3) := by decide +kernel
theorem dX9_start_20 : decode cX9_start 20 = .ok (.aload_n 0, 1) := by decide +kernel
theorem dX9_start_21 : decode cX9_start 21 = .ok (.getfield 23, 3) := by decide +kernel
theorem dX9_start_24 : decode cX9_start 24 = .ok (.lload_n 1, 1) := by decide +kernel
theorem dX9_start_25 : decode cX9_start 25 = .ok (.invokestatic 95, 3) := by decide +kernel
theorem dX9_start_28 : decode cX9_start 28 = .ok (.iastore, 1) := by decide +kernel
theorem dX9_start_29 : decode cX9_start 29 = .ok (.aload_n 0, 1) := by decide +kernel
theorem dX9_start_30 : decode cX9_start 30 = .ok (.dup, 1) := by decide +kernel
theorem dX9_start_31 : decode cX9_start 31 = .ok (.getfield 23, 3) := by decide +kernel
theorem dX9_start_34 : decode cX9_start 34 = .ok (.iconst 1, 1) := by decide +kernel
theorem dX9_start_35 : decode cX9_start 35 = .ok (.iadd, 1) := by decide +kernel
theorem dX9_start_36 : decode cX9_start 36 = .ok (.putfield 23, 3) := by decide +kernel
theorem dX9_start_39 : decode cX9_start 39 = .ok (.iconst 1, 1) := by decide +kernel
theorem dX9_start_40 : decode cX9_start 40 = .ok (.ireturn, 1) := by decide +kernel
theorem dX9_value_0 : decode cX9_value 0 = .ok (.aload_n 0, 1) := by decide +kernel
theorem dX9_value_1 : decode cX9_value 1 = .ok (.iload_n 1, 1) := by decide +kernel
theorem dX9_value_2 : decode cX9_value 2 = .ok (.ifCond .lt 10, 3) := by decide +kernel
theorem dX9_value_5 : decode cX9_value 5 = .ok (.iload_n 1, 1) := by decide +kernel
theorem dX9_value_6 : decode cX9_value 6 = .ok (.sipush 300, 3) := by decide +kernel
theorem dX9_value_9 : decode cX9_value 9 = .ok (.if_icmp .le 7, 3) := by decide +kernel
theorem dX9_value_12 : decode cX9_value 12 = .ok (.iconst 1, 1) := by decide +kernel
theorem dX9_value_13 : decode cX9_value 13 = .ok (.goto 4, 3) := by decide +kernel
theorem dX9_value_16 : decode cX9_value 16 = .ok (.iconst 0, 1) := by decide +kernel
theorem dX9_value_17 : decode cX9_value 17 = .ok (.putfield 7, 3) := by decide +kernel
theorem dX9_value_20 : decode cX9_value 20 = .ok (.aload_n 0, 1) := by decide +kernel
theorem dX9_value_21 : decode cX9_value 21 = .ok (.getfield 7, 3) := by decide +kernel
theorem dX9_value_24 : decode cX9_value 24 = .ok (.ifCond .eq 5, 3) := by decide +kernel
theorem dX9_value_27 : decode cX9_value 27 = .ok (.iconst 0, 1) := by decide +kernel
theorem dX9_value_28 : decode cX9_value 28 = .ok (.ireturn, 1) := by decide +kernel
theorem dX9_value_29 : decode cX9_value 29 = .ok (.aload_n 0, 1) := by decide +kernel
theorem dX9_value_30 : decode cX9_value 30 = .ok (.invokevirtual 99, 3) := by decide +kernel
theorem dX9_value_33 : decode cX9_value 33 = .ok (.istore_n 2, 1) := by decide +kernel
theorem dX9_value_34 : decode cX9_value 34 = .ok (.iload_n 2, 1) := by decide +kernel
theorem dX9_value_35 : decode cX9_value 35 = .ok (.ifCond .lt 11, 3) := by decide +kernel
theorem dX9_value_38 : decode cX9_value 38 = .ok (.aload_n 0, 1) := by decide +kernel
theorem dX9_value_39 : decode cX9_value 39 = .ok (.getfield 23, 3) := by decide +kernel
theorem dX9_value_42 : decode cX9_value 42 = .ok (.iload_n 2, 1) := by decide +kernel
theorem dX9_value_43 : decode cX9_value 43 = .ok (.if_icmp .ge 5, 3) := by decide +kernel
theorem dX9_value_46 : decode cX9_value 46 = .ok (.iconst (-1), 1) := by decide +kernel
theorem dX9_value_47 : decode cX9_value 47 = .ok (.ireturn, 1) := by decide +kernel
theorem dX9_value_48 : decode cX9_value 48 = .ok (.iconst 0, 1) := by decide +kernel
theorem dX9_value_49 : decode cX9_value 49 = .ok (.istore_n 3, 1) := by decide +kernel
theorem dX9_value_50 : decode cX9_value 50 = .ok (.iload_n 3, 1) := by decide +kernel
theorem dX9_value_51 : decode cX9_value 51 = .ok (.iload_n 1, 1) := by decide +kernel
theorem dX9_value_52 : decode cX9_value 52 = .ok (.if_icmp .gt 156, 3) := by decide +kernel
theorem dX9_value_55 : decode cX9_value 55 = .ok (.iload_n 3, 1) := by decide +kernel
theorem dX9_value_56 : decode cX9_value 56 = .ok (.aload_n 0, 1) := by decide +kernel
theorem dX9_value_57 : decode cX9_value 57 = .ok (.getfield 23, 3) := by decide +kernel
theorem dX9_value_60 : decode cX9_value 60 = .ok (.if_icmp .ge 18, 3) := by decide +kernel
theorem dX9_value_63 : decode cX9_value 63 = .ok (.aload_n 0, 1) := by decide +kernel
theorem dX9_value_64 : decode cX9_value 64 = .ok (.getfield 29, 3) := by decide +kernel
theorem dX9_value_67 : decode cX9_value 67 = .ok (.iload_n 3, 1) := by decide +kernel
theorem dX9_value_68 : decode cX9_value 68 = .ok (.aload_n 0, 1) := by decide +kernel
theorem dX9_value_69 : decode cX9_value 69 = .ok (.getfield 20, 3) := by decide +kernel
theorem dX9_value_72 : decode cX9_value 72 = .ok (.iload_n 3, 1) := by decide +kernel
theorem dX9_value_73 : decode cX9_value 73 = .ok (.iaload, 1) := by decide +kernel
theorem dX9_value_74 : decode cX9_value 74 = .ok (.iastore, 1) := by decide +kernel
theorem dX9_value_75 : decode cX9_value 75 = .ok (.goto 127, 3) := by decide +kernel
theorem dX9_value_78 : decode cX9_value 78 = .ok (.iload_n 3, 1) := by decide +kernel
theorem dX9_value_79 : decode cX9_value 79 = .ok (.iload_n 2, 1) := by decide +kernel
theorem dX9_value_80 : decode cX9_value 80 = .ok (.isub, 1) := by decide +kernel
theorem dX9_value_81 : decode cX9_value 81 = .ok (.istore 4, 2) := by decide +kernel
theorem dX9_value_83 : decode cX9_value 83 = .ok (.aload_n 0, 1) := by decide +kernel
theorem dX9_value_84 : decode cX9_value 84 = .ok (.aload_n 0, 1) := by decide +kernel
theorem dX9_value_85 : decode cX9_value 85 = .ok (.getfield 13, 3) := by decide +kernel
theorem dX9_value_88 : decode cX9_value 88 = .ok (.bipush 7, 2) := by decide +kernel
theorem dX9_value_90 : decode cX9_value 90 = .ok (.iload_n 2, 1) := by decide +kernel
theorem dX9_value_91 : decode cX9_value 91 = .ok (.imul, 1) := by decide +kernel
theorem dX9_value_92 : decode cX9_value 92 = .ok (.bipush 7, 2) := by decide +kernel
theorem dX9_value_94 : decode cX9_value 94 = .ok (.iload 4, 2) := by decide +kernel
theorem dX9_value_96 : decode cX9_value 96 = .ok (.invokevirtual 121, 3) := by decide +kernel
theorem dX9_value_99 : decode cX9_value 99 = .ok (.istore 5, 2) := by decide +kernel
theorem dX9_value_101 : decode cX9_value 101 = .ok (.iload 5, 2) := by decide +kernel
theorem dX9_value_103 : decode cX9_value 103 = .ok (.ifCond .ne 5, 3) := by decide +kernel
theorem dX9_value_106 : decode cX9_value 106 = .ok (.iconst (-1), 1) := by decide +kernel
theorem dX9_value_107 : decode cX9_value 107 = .ok (.ireturn, 1) := by decide +kernel
theorem dX9_value_108 : decode cX9_value 108 = .ok (.aload_n 0, 1) := by decide +kernel
theorem dX9_value_109 : decode cX9_value 109 = .ok (.aload_n 0, 1) := by decide +kernel
theorem dX9_value_110 : decode cX9_value 110 = .ok (.getfield 17, 3) := by decide +kernel
theorem dX9_value_113 : decode cX9_value 113 = .ok (.iconst 0, 1) := by decide +kernel
theorem dX9_value_114 : decode cX9_value 114 = .ok (.bipush 11, 2) := by decide +kernel
theorem dX9_value_116 : decode cX9_value 116 = .ok (.iload 4, 2) := by decide +kernel
theorem dX9_value_118 : decode cX9_value 118 = .ok (.invokevirtual 121, 3) := by decide +kernel
theorem dX9_value_121 : decode cX9_value 121 = .ok (.i2l, 1) := by decide +kernel
theorem dX9_value_122 : decode cX9_value 122 = .ok (.lstore 6, 2) := by decide +kernel
theorem dX9_value_124 : decode cX9_value 124 = .ok (.iconst 0, 1) := by decide +kernel
theorem dX9_value_125 : decode cX9_value 125 = .ok (.istore 8, 2) := by decide +kernel
theorem dX9_value_127 : decode cX9_value 127 = .ok (.iload 8, 2) := by decide +kernel
theorem dX9_value_129 : decode cX9_value 129 = .ok (.iload_n 2, 1) := by decide +kernel
theorem dX9_value_130 : decode cX9_value 130 = .ok (.if_icmp .ge 52, 3) := by decide +kernel
theorem dX9_value_133 : decode cX9_value 133 = .ok (.lload 6, 2) := by decide +kernel
theorem dX9_value_135 : decode cX9_value 135 = .ok (.sipush 32003, 3) := by decide +kernel
theorem dX9_value_138 : decode cX9_value 138 = .ok (.aload_n 0, 1) := by decide +kernel
theorem dX9_value_139 : decode cX9_value 139 = .ok (.aload_n 0, 1) := by decide +kernel
theorem dX9_value_140 : decode cX9_value 140 = .ok (.getfield 13, 3) := by decide +kernel
theorem dX9_value_143 : decode cX9_value 143 = .ok (.bipush 7, 2) := by decide +kernel
theorem dX9_value_145 : decode cX9_value 145 = .ok (.iload 8, 2) := by decide +kernel
theorem dX9_value_147 : decode cX9_value 147 = .ok (.imul, 1) := by decide +kernel
theorem dX9_value_148 : decode cX9_value 148 = .ok (.bipush 7, 2) := by decide +kernel
theorem dX9_value_150 : decode cX9_value 150 = .ok (.iload 4, 2) := by decide +kernel
theorem dX9_value_152 : decode cX9_value 152 = .ok (.invokevirtual 121, 3) := by decide +kernel
theorem dX9_value_155 : decode cX9_value 155 = .ok (.isub, 1) := by decide +kernel
theorem dX9_value_156 : decode cX9_value 156 = .ok (.i2l, 1) := by decide +kernel
theorem dX9_value_157 : decode cX9_value 157 = .ok (.aload_n 0, 1) := by decide +kernel
theorem dX9_value_158 : decode cX9_value 158 = .ok (.getfield 29, 3) := by decide +kernel
theorem dX9_value_161 : decode cX9_value 161 = .ok (.iload 4, 2) := by decide +kernel
theorem dX9_value_163 : decode cX9_value 163 = .ok (.iload 8, 2) := by decide +kernel
theorem dX9_value_165 : decode cX9_value 165 = .ok (.iadd, 1) := by decide +kernel
theorem dX9_value_166 : decode cX9_value 166 = .ok (.iaload, 1) := by decide +kernel
theorem dX9_value_167 : decode cX9_value 167 = .ok (.i2l, 1) := by decide +kernel
theorem dX9_value_168 : decode cX9_value 168 = .ok (.lmul, 1) := by decide +kernel
theorem dX9_value_169 : decode cX9_value 169 = .ok (.ladd, 1) := by decide +kernel
theorem dX9_value_170 : decode cX9_value 170 = .ok (.ldc2_w 78, 3) := by decide +kernel
theorem dX9_value_173 : decode cX9_value 173 = .ok (.lrem, 1) := by decide +kernel
theorem dX9_value_174 : decode cX9_value 174 = .ok (.lstore 6, 2) := by decide +kernel
theorem dX9_value_176 : decode cX9_value 176 = .ok (.iinc 8 1, 3) := by decide +kernel
theorem dX9_value_179 : decode cX9_value 179 = .ok (.goto (-52), 3) := by decide +kernel
theorem dX9_value_182 : decode cX9_value 182 = .ok (.aload_n 0, 1) := by decide +kernel
theorem dX9_value_183 : decode cX9_value 183 = .ok (.getfield 29, 3) := by decide +kernel
theorem dX9_value_186 : decode cX9_value 186 = .ok (.iload_n 3, 1) := by decide +kernel
theorem dX9_value_187 : decode cX9_value 187 = .ok (.lload 6, 2) := by decide +kernel
theorem dX9_value_189 : decode cX9_value 189 = .ok (.iload 5, 2) := by decide +kernel
theorem dX9_value_191 : decode cX9_value 191 = .ok (.invokestatic 91, 3) := by decide +kernel
theorem dX9_value_194 : decode cX9_value 194 = .ok (.i2l, 1) := by decide +kernel
theorem dX9_value_195 : decode cX9_value 195 = .ok (.lmul, 1) := by decide +kernel
theorem dX9_value_196 : decode cX9_value 196 = .ok (.ldc2_w 78, 3) := by decide +kernel
theorem dX9_value_199 : decode cX9_value 199 = .ok (.lrem, 1) := by decide +kernel
theorem dX9_value_200 : decode cX9_value 200 = .ok (.l2i, 1) := by decide +kernel
theorem dX9_value_201 : decode cX9_value 201 = .ok (.iastore, 1) := by decide +kernel
theorem dX9_value_202 : decode cX9_value 202 = .ok (.iinc 3 1, 3) := by decide +kernel
theorem dX9_value_205 : decode cX9_value 205 = .ok (.goto (-155), 3) := by decide +kernel
theorem dX9_value_208 : decode cX9_value 208 = .ok (.aload_n 0, 1) := by decide +kernel
theorem dX9_value_209 : decode cX9_value 209 = .ok (.getfield 29, 3) := by decide +kernel
theorem dX9_value_212 : decode cX9_value 212 = .ok (.iload_n 1, 1) := by decide +kernel
theorem dX9_value_213 : decode cX9_value 213 = .ok (.iaload, 1) := by decide +kernel
theorem dX9_value_214 : decode cX9_value 214 = .ok (.ireturn, 1) := by decide +kernel
theorem dX9_singular_0 : decode cX9_singular 0 = .ok (.aload_n 0, 1) := by decide +kernel
theorem dX9_singular_1 : decode cX9_singular 1 = .ok (.iconst 0, 1) := by decide +kernel
theorem dX9_singular_2 : decode cX9_singular 2 = .ok (.putfield 7, 3) := by decide +kernel
theorem dX9_singular_5 : decode cX9_singular 5 = .ok (.aload_n 0, 1) := by decide +kernel
theorem dX9_singular_6 : decode cX9_singular 6 = .ok (.invokevirtual 99, 3) := by decide +kernel
theorem dX9_singular_9 : decode cX9_singular 9 = .ok (.istore_n 2, 1) := by decide +kernel
theorem dX9_singular_10 : decode cX9_singular 10 = .ok (.iconst 0, 1) := by decide +kernel
theorem dX9_singular_11 : decode cX9_singular 11 = .ok (.istore_n 3, 1) := by decide +kernel
theorem dX9_singular_12 : decode cX9_singular 12 = .ok (.iconst 0, 1) := by decide +kernel
theorem dX9_singular_13 : decode cX9_singular 13 = .ok (.istore 4, 2) := by decide +kernel
theorem dX9_singular_15 : decode cX9_singular 15 = .ok (.iload 4, 2) := by decide +kernel
theorem dX9_singular_17 : decode cX9_singular 17 = .ok (.sipush 32003, 3) := by decide +kernel
theorem dX9_singular_20 : decode cX9_singular 20 = .ok (.if_icmp .ge 47, 3) := by decide +kernel
theorem dX9_singular_23 : decode cX9_singular 23 = .ok (.iload_n 2, 1) := by decide +kernel
theorem dX9_singular_24 : decode cX9_singular 24 = .ok (.ifCond .lt 43, 3) := by decide +kernel
theorem dX9_singular_27 : decode cX9_singular 27 = .ok (.iload_n 1, 1) := by decide +kernel
theorem dX9_singular_28 : decode cX9_singular 28 = .ok (.ifCond .lt 39, 3) := by decide +kernel
theorem dX9_singular_31 : decode cX9_singular 31 = .ok (.aload_n 0, 1) := by decide +kernel
theorem dX9_singular_32 : decode cX9_singular 32 = .ok (.aload_n 0, 1) := by decide +kernel
theorem dX9_singular_33 : decode cX9_singular 33 = .ok (.getfield 13, 3) := by decide +kernel
theorem dX9_singular_36 : decode cX9_singular 36 = .ok (.bipush 7, 2) := by decide +kernel
theorem dX9_singular_38 : decode cX9_singular 38 = .ok (.iload_n 2, 1) := by decide +kernel
theorem dX9_singular_39 : decode cX9_singular 39 = .ok (.imul, 1) := by decide +kernel
theorem dX9_singular_40 : decode cX9_singular 40 = .ok (.bipush 7, 2) := by decide +kernel
theorem dX9_singular_42 : decode cX9_singular 42 = .ok (.iload 4, 2) := by decide +kernel
theorem dX9_singular_44 : decode cX9_singular 44 = .ok (.invokevirtual 121, 3) := by decide +kernel
theorem dX9_singular_47 : decode cX9_singular 47 = .ok (.ifCond .ne 14, 3) := by decide +kernel
theorem dX9_singular_50 : decode cX9_singular 50 = .ok (.iload_n 3, 1) := by decide +kernel
theorem dX9_singular_51 : decode cX9_singular 51 = .ok (.iload_n 1, 1) := by decide +kernel
theorem dX9_singular_52 : decode cX9_singular 52 = .ok (.if_icmp .ne 6, 3) := by decide +kernel
theorem dX9_singular_55 : decode cX9_singular 55 = .ok (.iload 4, 2) := by decide +kernel
theorem dX9_singular_57 : decode cX9_singular 57 = .ok (.ireturn, 1) := by decide +kernel
theorem dX9_singular_58 : decode cX9_singular 58 = .ok (.iinc 3 1, 3) := by decide +kernel
theorem dX9_singular_61 : decode cX9_singular 61 = .ok (.iinc 4 1, 3) := by decide +kernel
theorem dX9_singular_64 : decode cX9_singular 64 = .ok (.goto (-49), 3) := by decide +kernel
theorem dX9_singular_67 : decode cX9_singular 67 = .ok (.iconst (-1), 1) := by decide +kernel
theorem dX9_singular_68 : decode cX9_singular 68 = .ok (.ireturn, 1) := by decide +kernel
theorem dX9_end_0 : decode cX9_end 0 = .ok (.aload_n 0, 1) := by decide +kernel
theorem dX9_end_1 : decode cX9_end 1 = .ok (.iload_n 1, 1) := by decide +kernel
theorem dX9_end_2 : decode cX9_end 2 = .ok (.ifCond .lt 8, 3) := by decide +kernel
theorem dX9_end_5 : decode cX9_end 5 = .ok (.iload_n 1, 1) := by decide +kernel
theorem dX9_end_6 : decode cX9_end 6 = .ok (.iconst 1, 1) := by decide +kernel
theorem dX9_end_7 : decode cX9_end 7 = .ok (.if_icmp .le 7, 3) := by decide +kernel
theorem dX9_end_10 : decode cX9_end 10 = .ok (.iconst 1, 1) := by decide +kernel
theorem dX9_end_11 : decode cX9_end 11 = .ok (.goto 4, 3) := by decide +kernel
theorem dX9_end_14 : decode cX9_end 14 = .ok (.iconst 0, 1) := by decide +kernel
theorem dX9_end_15 : decode cX9_end 15 = .ok (.putfield 7, 3) := by decide +kernel
theorem dX9_end_18 : decode cX9_end 18 = .ok (.aload_n 0, 1) := by decide +kernel
theorem dX9_end_19 : decode cX9_end 19 = .ok (.getfield 7, 3) := by decide +kernel
theorem dX9_end_22 : decode cX9_end 22 = .ok (.ifCond .eq 5, 3) := by decide +kernel
end
section
theorem dX9_end_25 : decode cX9_end 25 = .ok (.iconst 0, 1) := by decide +kernel
theorem dX9_end_26 : decode cX9_end 26 = .ok (.ireturn, 1) := by decide +kernel
theorem dX9_end_27 : decode cX9_end 27 = .ok (.iload_n 1, 1) := by decide +kernel
theorem dX9_end_28 : decode cX9_end 28 = .ok (.iconst 1, 1) := by decide +kernel
theorem dX9_end_29 : decode cX9_end 29 = .ok (.if_icmp .ne 8, 3) := by decide +kernel
theorem dX9_end_32 : decode cX9_end 32 = .ok (.aload_n 0, 1) := by decide +kernel
theorem dX9_end_33 : decode cX9_end 33 = .ok (.invokevirtual 99, 3) := by decide +kernel
theorem dX9_end_36 : decode cX9_end 36 = .ok (.ireturn, 1) := by decide +kernel
theorem dX9_end_37 : decode cX9_end 37 = .ok (.iconst 0, 1) := by decide +kernel
theorem dX9_end_38 : decode cX9_end 38 = .ok (.istore_n 2, 1) := by decide +kernel
theorem dX9_end_39 : decode cX9_end 39 = .ok (.iload_n 2, 1) := by decide +kernel
theorem dX9_end_40 : decode cX9_end 40 = .ok (.bipush 7, 2) := by decide +kernel
theorem dX9_end_42 : decode cX9_end 42 = .ok (.aload_n 0, 1) := by decide +kernel
theorem dX9_end_43 : decode cX9_end 43 = .ok (.getfield 75, 3) := by decide +kernel
theorem dX9_end_46 : decode cX9_end 46 = .ok (.imul, 1) := by decide +kernel
theorem dX9_end_47 : decode cX9_end 47 = .ok (.bipush 7, 2) := by decide +kernel
theorem dX9_end_49 : decode cX9_end 49 = .ok (.iadd, 1) := by decide +kernel
theorem dX9_end_50 : decode cX9_end 50 = .ok (.if_icmp .ge 23, 3) := by decide +kernel
theorem dX9_end_53 : decode cX9_end 53 = .ok (.aload_n 0, 1) := by decide +kernel
theorem dX9_end_54 : decode cX9_end 54 = .ok (.getfield 13, 3) := by decide +kernel
theorem dX9_end_57 : decode cX9_end 57 = .ok (.iload_n 2, 1) := by decide +kernel
theorem dX9_end_58 : decode cX9_end 58 = .ok (.iaload, 1) := by decide +kernel
theorem dX9_end_59 : decode cX9_end 59 = .ok (.ifCond .eq 8, 3) := by decide +kernel
theorem dX9_end_62 : decode cX9_end 62 = .ok (.iload_n 2, 1) := by decide +kernel
theorem dX9_end_63 : decode cX9_end 63 = .ok (.bipush 7, 2) := by decide +kernel
theorem dX9_end_65 : decode cX9_end 65 = .ok (.idiv, 1) := by decide +kernel
theorem dX9_end_66 : decode cX9_end 66 = .ok (.ireturn, 1) := by decide +kernel
theorem dX9_end_67 : decode cX9_end 67 = .ok (.iinc 2 1, 3) := by decide +kernel
theorem dX9_end_70 : decode cX9_end 70 = .ok (.goto (-31), 3) := by decide +kernel
theorem dX9_end_73 : decode cX9_end 73 = .ok (.iconst (-1), 1) := by decide +kernel
theorem dX9_end_74 : decode cX9_end 74 = .ok (.ireturn, 1) := by decide +kernel
theorem dX9_rest_0 : decode cX9_rest 0 = .ok (.aload_n 0, 1) := by decide +kernel
theorem dX9_rest_1 : decode cX9_rest 1 = .ok (.iload_n 1, 1) := by decide +kernel
theorem dX9_rest_2 : decode cX9_rest 2 = .ok (.ifCond .lt 9, 3) := by decide +kernel
theorem dX9_rest_5 : decode cX9_rest 5 = .ok (.iload_n 1, 1) := by decide +kernel
theorem dX9_rest_6 : decode cX9_rest 6 = .ok (.bipush 18, 2) := by decide +kernel
theorem dX9_rest_8 : decode cX9_rest 8 = .ok (.if_icmp .le 7, 3) := by decide +kernel
theorem dX9_rest_11 : decode cX9_rest 11 = .ok (.iconst 1, 1) := by decide +kernel
theorem dX9_rest_12 : decode cX9_rest 12 = .ok (.goto 4, 3) := by decide +kernel
theorem dX9_rest_15 : decode cX9_rest 15 = .ok (.iconst 0, 1) := by decide +kernel
theorem dX9_rest_16 : decode cX9_rest 16 = .ok (.putfield 7, 3) := by decide +kernel
theorem dX9_rest_19 : decode cX9_rest 19 = .ok (.aload_n 0, 1) := by decide +kernel
theorem dX9_rest_20 : decode cX9_rest 20 = .ok (.getfield 7, 3) := by decide +kernel
theorem dX9_rest_23 : decode cX9_rest 23 = .ok (.ifCond .eq 5, 3) := by decide +kernel
theorem dX9_rest_26 : decode cX9_rest 26 = .ok (.iconst 0, 1) := by decide +kernel
theorem dX9_rest_27 : decode cX9_rest 27 = .ok (.ireturn, 1) := by decide +kernel
theorem dX9_rest_28 : decode cX9_rest 28 = .ok (.aload_n 0, 1) := by decide +kernel
theorem dX9_rest_29 : decode cX9_rest 29 = .ok (.aload_n 0, 1) := by decide +kernel
theorem dX9_rest_30 : decode cX9_rest 30 = .ok (.getfield 26, 3) := by decide +kernel
theorem dX9_rest_33 : decode cX9_rest 33 = .ok (.iconst 1, 1) := by decide +kernel
theorem dX9_rest_34 : decode cX9_rest 34 = .ok (.invokevirtual 88, 3) := by decide +kernel
theorem dX9_rest_37 : decode cX9_rest 37 = .ok (.aload_n 0, 1) := by decide +kernel
theorem dX9_rest_38 : decode cX9_rest 38 = .ok (.getfield 63, 3) := by decide +kernel
theorem dX9_rest_41 : decode cX9_rest 41 = .ok (.iload_n 1, 1) := by decide +kernel
theorem dX9_rest_42 : decode cX9_rest 42 = .ok (.iaload, 1) := by decide +kernel
theorem dX9_rest_43 : decode cX9_rest 43 = .ok (.sipush 32003, 3) := by decide +kernel
theorem dX9_rest_46 : decode cX9_rest 46 = .ok (.iadd, 1) := by decide +kernel
theorem dX9_rest_47 : decode cX9_rest 47 = .ok (.iload_n 1, 1) := by decide +kernel
theorem dX9_rest_48 : decode cX9_rest 48 = .ok (.bipush 11, 2) := by decide +kernel
theorem dX9_rest_50 : decode cX9_rest 50 = .ok (.if_icmp .ge 12, 3) := by decide +kernel
theorem dX9_rest_53 : decode cX9_rest 53 = .ok (.aload_n 0, 1) := by decide +kernel
theorem dX9_rest_54 : decode cX9_rest 54 = .ok (.getfield 17, 3) := by decide +kernel
theorem dX9_rest_57 : decode cX9_rest 57 = .ok (.iload_n 1, 1) := by decide +kernel
theorem dX9_rest_58 : decode cX9_rest 58 = .ok (.iaload, 1) := by decide +kernel
theorem dX9_rest_59 : decode cX9_rest 59 = .ok (.goto 4, 3) := by decide +kernel
theorem dX9_rest_62 : decode cX9_rest 62 = .ok (.iconst 0, 1) := by decide +kernel
theorem dX9_rest_63 : decode cX9_rest 63 = .ok (.isub, 1) := by decide +kernel
theorem dX9_rest_64 : decode cX9_rest 64 = .ok (.sipush 32003, 3) := by decide +kernel
theorem dX9_rest_67 : decode cX9_rest 67 = .ok (.irem, 1) := by decide +kernel
theorem dX9_rest_68 : decode cX9_rest 68 = .ok (.ireturn, 1) := by decide +kernel
theorem dX9_put_0 : decode cX9_put 0 = .ok (.aload_n 0, 1) := by decide +kernel
theorem dX9_put_1 : decode cX9_put 1 = .ok (.iload_n 1, 1) := by decide +kernel
theorem dX9_put_2 : decode cX9_put 2 = .ok (.ifCond .lt 9, 3) := by decide +kernel
theorem dX9_put_5 : decode cX9_put 5 = .ok (.iload_n 1, 1) := by decide +kernel
theorem dX9_put_6 : decode cX9_put 6 = .ok (.bipush 12, 2) := by decide +kernel
theorem dX9_put_8 : decode cX9_put 8 = .ok (.if_icmp .le 7, 3) := by decide +kernel
theorem dX9_put_11 : decode cX9_put 11 = .ok (.iconst 1, 1) := by decide +kernel
theorem dX9_put_12 : decode cX9_put 12 = .ok (.goto 4, 3) := by decide +kernel
theorem dX9_put_15 : decode cX9_put 15 = .ok (.iconst 0, 1) := by decide +kernel
theorem dX9_put_16 : decode cX9_put 16 = .ok (.putfield 7, 3) := by decide +kernel
theorem dX9_put_19 : decode cX9_put 19 = .ok (.aload_n 0, 1) := by decide +kernel
theorem dX9_put_20 : decode cX9_put 20 = .ok (.getfield 7, 3) := by decide +kernel
theorem dX9_put_23 : decode cX9_put 23 = .ok (.ifCond .eq 5, 3) := by decide +kernel
theorem dX9_put_26 : decode cX9_put 26 = .ok (.iconst 0, 1) := by decide +kernel
theorem dX9_put_27 : decode cX9_put 27 = .ok (.ireturn, 1) := by decide +kernel
theorem dX9_put_28 : decode cX9_put 28 = .ok (.iload_n 2, 1) := by decide +kernel
theorem dX9_put_29 : decode cX9_put 29 = .ok (.i2l, 1) := by decide +kernel
theorem dX9_put_30 : decode cX9_put 30 = .ok (.invokestatic 95, 3) := by decide +kernel
theorem dX9_put_33 : decode cX9_put 33 = .ok (.istore_n 3, 1) := by decide +kernel
theorem dX9_put_34 : decode cX9_put 34 = .ok (.aload_n 0, 1) := by decide +kernel
theorem dX9_put_35 : decode cX9_put 35 = .ok (.getfield 26, 3) := by decide +kernel
theorem dX9_put_38 : decode cX9_put 38 = .ok (.iload_n 1, 1) := by decide +kernel
theorem dX9_put_39 : decode cX9_put 39 = .ok (.iaload, 1) := by decide +kernel
theorem dX9_put_40 : decode cX9_put 40 = .ok (.iload_n 3, 1) := by decide +kernel
theorem dX9_put_41 : decode cX9_put 41 = .ok (.if_icmp .eq 7, 3) := by decide +kernel
theorem dX9_put_44 : decode cX9_put 44 = .ok (.iconst 1, 1) := by decide +kernel
theorem dX9_put_45 : decode cX9_put 45 = .ok (.goto 4, 3) := by decide +kernel
theorem dX9_put_48 : decode cX9_put 48 = .ok (.iconst 0, 1) := by decide +kernel
theorem dX9_put_49 : decode cX9_put 49 = .ok (.istore 4, 2) := by decide +kernel
theorem dX9_put_51 : decode cX9_put 51 = .ok (.aload_n 0, 1) := by decide +kernel
theorem dX9_put_52 : decode cX9_put 52 = .ok (.getfield 26, 3) := by decide +kernel
theorem dX9_put_55 : decode cX9_put 55 = .ok (.iload_n 1, 1) := by decide +kernel
theorem dX9_put_56 : decode cX9_put 56 = .ok (.iload_n 3, 1) := by decide +kernel
theorem dX9_put_57 : decode cX9_put 57 = .ok (.iastore, 1) := by decide +kernel
theorem dX9_put_58 : decode cX9_put 58 = .ok (.iload 4, 2) := by decide +kernel
theorem dX9_put_60 : decode cX9_put 60 = .ok (.ireturn, 1) := by decide +kernel
theorem dX9_clear_0 : decode cX9_clear 0 = .ok (.aload_n 0, 1) := by decide +kernel
theorem dX9_clear_1 : decode cX9_clear 1 = .ok (.iconst 0, 1) := by decide +kernel
theorem dX9_clear_2 : decode cX9_clear 2 = .ok (.putfield 7, 3) := by decide +kernel
theorem dX9_clear_5 : decode cX9_clear 5 = .ok (.aload_n 0, 1) := by decide +kernel
theorem dX9_clear_6 : decode cX9_clear 6 = .ok (.iconst 0, 1) := by decide +kernel
theorem dX9_clear_7 : decode cX9_clear 7 = .ok (.putfield 32, 3) := by decide +kernel
theorem dX9_clear_10 : decode cX9_clear 10 = .ok (.aload_n 0, 1) := by decide +kernel
theorem dX9_clear_11 : decode cX9_clear 11 = .ok (.iconst 0, 1) := by decide +kernel
theorem dX9_clear_12 : decode cX9_clear 12 = .ok (.putfield 23, 3) := by decide +kernel
theorem dX9_clear_15 : decode cX9_clear 15 = .ok (.iconst 0, 1) := by decide +kernel
theorem dX9_clear_16 : decode cX9_clear 16 = .ok (.istore_n 1, 1) := by decide +kernel
theorem dX9_clear_17 : decode cX9_clear 17 = .ok (.iload_n 1, 1) := by decide +kernel
theorem dX9_clear_18 : decode cX9_clear 18 = .ok (.bipush 35, 2) := by decide +kernel
theorem dX9_clear_20 : decode cX9_clear 20 = .ok (.if_icmp .ge 16, 3) := by decide +kernel
theorem dX9_clear_23 : decode cX9_clear 23 = .ok (.aload_n 0, 1) := by decide +kernel
theorem dX9_clear_24 : decode cX9_clear 24 = .ok (.getfield 13, 3) := by decide +kernel
theorem dX9_clear_27 : decode cX9_clear 27 = .ok (.iload_n 1, 1) := by decide +kernel
theorem dX9_clear_28 : decode cX9_clear 28 = .ok (.iconst 0, 1) := by decide +kernel
theorem dX9_clear_29 : decode cX9_clear 29 = .ok (.iastore, 1) := by decide +kernel
theorem dX9_clear_30 : decode cX9_clear 30 = .ok (.iinc 1 1, 3) := by decide +kernel
theorem dX9_clear_33 : decode cX9_clear 33 = .ok (.goto (-16), 3) := by decide +kernel
theorem dX9_clear_36 : decode cX9_clear 36 = .ok (.iconst 0, 1) := by decide +kernel
theorem dX9_clear_37 : decode cX9_clear 37 = .ok (.istore_n 1, 1) := by decide +kernel
theorem dX9_clear_38 : decode cX9_clear 38 = .ok (.iload_n 1, 1) := by decide +kernel
theorem dX9_clear_39 : decode cX9_clear 39 = .ok (.bipush 11, 2) := by decide +kernel
theorem dX9_clear_41 : decode cX9_clear 41 = .ok (.if_icmp .ge 16, 3) := by decide +kernel
theorem dX9_clear_44 : decode cX9_clear 44 = .ok (.aload_n 0, 1) := by decide +kernel
theorem dX9_clear_45 : decode cX9_clear 45 = .ok (.getfield 17, 3) := by decide +kernel
theorem dX9_clear_48 : decode cX9_clear 48 = .ok (.iload_n 1, 1) := by decide +kernel
theorem dX9_clear_49 : decode cX9_clear 49 = .ok (.iconst 0, 1) := by decide +kernel
theorem dX9_clear_50 : decode cX9_clear 50 = .ok (.iastore, 1) := by decide +kernel
theorem dX9_clear_51 : decode cX9_clear 51 = .ok (.iinc 1 1, 3) := by decide +kernel
theorem dX9_clear_54 : decode cX9_clear 54 = .ok (.goto (-16), 3) := by decide +kernel
theorem dX9_clear_57 : decode cX9_clear 57 = .ok (.iconst 0, 1) := by decide +kernel
theorem dX9_clear_58 : decode cX9_clear 58 = .ok (.istore_n 1, 1) := by decide +kernel
theorem dX9_clear_59 : decode cX9_clear 59 = .ok (.iload_n 1, 1) := by decide +kernel
theorem dX9_clear_60 : decode cX9_clear 60 = .ok (.bipush 13, 2) := by decide +kernel
theorem dX9_clear_62 : decode cX9_clear 62 = .ok (.if_icmp .ge 16, 3) := by decide +kernel
theorem dX9_clear_65 : decode cX9_clear 65 = .ok (.aload_n 0, 1) := by decide +kernel
theorem dX9_clear_66 : decode cX9_clear 66 = .ok (.getfield 26, 3) := by decide +kernel
theorem dX9_clear_69 : decode cX9_clear 69 = .ok (.iload_n 1, 1) := by decide +kernel
theorem dX9_clear_70 : decode cX9_clear 70 = .ok (.iconst 0, 1) := by decide +kernel
theorem dX9_clear_71 : decode cX9_clear 71 = .ok (.iastore, 1) := by decide +kernel
theorem dX9_clear_72 : decode cX9_clear 72 = .ok (.iinc 1 1, 3) := by decide +kernel
theorem dX9_clear_75 : decode cX9_clear 75 = .ok (.goto (-16), 3) := by decide +kernel
theorem dX9_clear_78 : decode cX9_clear 78 = .ok (.return_, 1) := by decide +kernel
theorem dJx00060_init_a7421_0 : decode cJx00060_init_a7421 0 = .ok (.aload_n 0, 1) := by decide +kernel
theorem dJx00060_init_a7421_1 : decode cJx00060_init_a7421 1 = .ok (.aload_n 1, 1) := by decide +kernel
theorem dJx00060_init_a7421_2 : decode cJx00060_init_a7421 2 = .ok (.invokespecial 7, 3) := by decide +kernel
theorem dJx00060_init_a7421_5 : decode cJx00060_init_a7421 5 = .ok (.return_, 1) := by decide +kernel
theorem dJ9_floorMod_f86c9_0 : decode cJ9_floorMod_f86c9 0 = .ok (.lload_n 0, 1) := by decide +kernel
theorem dJ9_floorMod_f86c9_1 : decode cJ9_floorMod_f86c9 1 = .ok (.lload_n 2, 1) := by decide +kernel
theorem dJ9_floorMod_f86c9_2 : decode cJ9_floorMod_f86c9 2 = .ok (.lrem, 1) := by decide +kernel
theorem dJ9_floorMod_f86c9_3 : decode cJ9_floorMod_f86c9 3 = .ok (.lstore 4, 2) := by decide +kernel
theorem dJ9_floorMod_f86c9_5 : decode cJ9_floorMod_f86c9 5 = .ok (.lload_n 0, 1) := by decide +kernel
theorem dJ9_floorMod_f86c9_6 : decode cJ9_floorMod_f86c9 6 = .ok (.lload_n 2, 1) := by decide +kernel
theorem dJ9_floorMod_f86c9_7 : decode cJ9_floorMod_f86c9 7 = .ok (.lxor, 1) := by decide +kernel
theorem dJ9_floorMod_f86c9_8 : decode cJ9_floorMod_f86c9 8 = .ok (.lconst 0, 1) := by decide +kernel
theorem dJ9_floorMod_f86c9_9 : decode cJ9_floorMod_f86c9 9 = .ok (.lcmp, 1) := by decide +kernel
theorem dJ9_floorMod_f86c9_10 : decode cJ9_floorMod_f86c9 10 = .ok (.ifCond .ge 15, 3) := by decide +kernel
theorem dJ9_floorMod_f86c9_13 : decode cJ9_floorMod_f86c9 13 = .ok (.lload 4, 2) := by decide +kernel
theorem dJ9_floorMod_f86c9_15 : decode cJ9_floorMod_f86c9 15 = .ok (.lconst 0, 1) := by decide +kernel
theorem dJ9_floorMod_f86c9_16 : decode cJ9_floorMod_f86c9 16 = .ok (.lcmp, 1) := by decide +kernel
theorem dJ9_floorMod_f86c9_17 : decode cJ9_floorMod_f86c9 17 = .ok (.ifCond .eq 8, 3) := by decide +kernel
theorem dJ9_floorMod_f86c9_20 : decode cJ9_floorMod_f86c9 20 = .ok (.lload 4, 2) := by decide +kernel
theorem dJ9_floorMod_f86c9_22 : decode cJ9_floorMod_f86c9 22 = .ok (.lload_n 2, 1) := by decide +kernel
theorem dJ9_floorMod_f86c9_23 : decode cJ9_floorMod_f86c9 23 = .ok (.ladd, 1) := by decide +kernel
theorem dJ9_floorMod_f86c9_24 : decode cJ9_floorMod_f86c9 24 = .ok (.lreturn, 1) := by decide +kernel
theorem dJ9_floorMod_f86c9_25 : decode cJ9_floorMod_f86c9 25 = .ok (.lload 4, 2) := by decide +kernel
theorem dJ9_floorMod_f86c9_27 : decode cJ9_floorMod_f86c9 27 = .ok (.lreturn, 1) := by decide +kernel
theorem dJ9_max_7cf53_0 : decode cJ9_max_7cf53 0 = .ok (.iload_n 0, 1) := by decide +kernel
theorem dJ9_max_7cf53_1 : decode cJ9_max_7cf53 1 = .ok (.iload_n 1, 1) := by decide +kernel
theorem dJ9_max_7cf53_2 : decode cJ9_max_7cf53 2 = .ok (.if_icmp .lt 7, 3) := by decide +kernel
theorem dJ9_max_7cf53_5 : decode cJ9_max_7cf53 5 = .ok (.iload_n 0, 1) := by decide +kernel
theorem dJ9_max_7cf53_6 : decode cJ9_max_7cf53 6 = .ok (.goto 4, 3) := by decide +kernel
theorem dJ9_max_7cf53_9 : decode cJ9_max_7cf53 9 = .ok (.iload_n 1, 1) := by decide +kernel
theorem dJ9_max_7cf53_10 : decode cJ9_max_7cf53 10 = .ok (.ireturn, 1) := by decide +kernel
theorem dJ9_min_7cf53_0 : decode cJ9_min_7cf53 0 = .ok (.iload_n 0, 1) := by decide +kernel
theorem dJ9_min_7cf53_1 : decode cJ9_min_7cf53 1 = .ok (.iload_n 1, 1) := by decide +kernel
theorem dJ9_min_7cf53_2 : decode cJ9_min_7cf53 2 = .ok (.if_icmp .gt 7, 3) := by decide +kernel
theorem dJ9_min_7cf53_5 : decode cJ9_min_7cf53 5 = .ok (.iload_n 0, 1) := by decide +kernel
theorem dJ9_min_7cf53_6 : decode cJ9_min_7cf53 6 = .ok (.goto 4, 3) := by decide +kernel
theorem dJ9_min_7cf53_9 : decode cJ9_min_7cf53 9 = .ok (.iload_n 1, 1) := by decide +kernel
theorem dJ9_min_7cf53_10 : decode cJ9_min_7cf53 10 = .ok (.ireturn, 1) := by decide +kernel
theorem dL_cell_0 : decode cL_cell 0 = .ok (.iload_n 1, 1) := by decide +kernel
theorem dL_cell_1 : decode cL_cell 1 = .ok (.aload_n 0, 1) := by decide +kernel
theorem dL_cell_2 : decode cL_cell 2 = .ok (.arraylength, 1) := by decide +kernel
theorem dL_cell_3 : decode cL_cell 3 = .ok (.if_icmp .ge 9, 3) := by decide +kernel
theorem dL_cell_6 : decode cL_cell 6 = .ok (.aload_n 0, 1) := by decide +kernel
theorem dL_cell_7 : decode cL_cell 7 = .ok (.iload_n 1, 1) := by decide +kernel
theorem dL_cell_8 : decode cL_cell 8 = .ok (.iaload, 1) := by decide +kernel
theorem dL_cell_9 : decode cL_cell 9 = .ok (.goto 4, 3) := by decide +kernel
theorem dL_cell_12 : decode cL_cell 12 = .ok (.iconst 0, 1) := by decide +kernel
theorem dL_cell_13 : decode cL_cell 13 = .ok (.ireturn, 1) := by decide +kernel
theorem dL_factor_0 : decode cL_factor 0 = .ok (.aload 7, 2) := by decide +kernel
theorem dL_factor_2 : decode cL_factor 2 = .ok (.iconst 0, 1) := by decide +kernel
theorem dL_factor_3 : decode cL_factor 3 = .ok (.aload_n 0, 1) := by decide +kernel
theorem dL_factor_4 : decode cL_factor 4 = .ok (.iload_n 1, 1) := by decide +kernel
theorem dL_factor_5 : decode cL_factor 5 = .ok (.iload_n 2, 1) := by decide +kernel
theorem dL_factor_6 : decode cL_factor 6 = .ok (.lload_n 3, 1) := by decide +kernel
theorem dL_factor_7 : decode cL_factor 7 = .ok (.lload 5, 2) := by decide +kernel
theorem dL_factor_9 : decode cL_factor 9 = .ok (.invokevirtual 7, 3) := by decide +kernel
theorem dL_factor_12 : decode cL_factor 12 = .ok (.ifCond .eq 7, 3) := by decide +kernel
theorem dL_factor_15 : decode cL_factor 15 = .ok (.lconst 1, 1) := by decide +kernel
theorem dL_factor_16 : decode cL_factor 16 = .ok (.goto 4, 3) := by decide +kernel
theorem dL_factor_19 : decode cL_factor 19 = .ok (.lconst 0, 1) := by decide +kernel
theorem dL_factor_20 : decode cL_factor 20 = .ok (.lastore, 1) := by decide +kernel
theorem dL_factor_21 : decode cL_factor 21 = .ok (.goto 15, 3) := by decide +kernel
theorem dL_factor_24 : decode cL_factor 24 = .ok (.astore 8, 2) := by decide +kernel
theorem dL_factor_26 : decode cL_factor 26 = .ok (.iconst 1, 1) := by decide +kernel
theorem dL_factor_27 : decode cL_factor 27 = .ok (.ireturn, 1) := by decide +kernel
theorem dL_factor_28 : decode cL_factor 28 = .ok (.astore 8, 2) := by decide +kernel
theorem dL_factor_30 : decode cL_factor 30 = .ok (.iconst 2, 1) := by decide +kernel
theorem dL_factor_31 : decode cL_factor 31 = .ok (.ireturn, 1) := by decide +kernel
theorem dL_factor_32 : decode cL_factor 32 = .ok (.astore 8, 2) := by decide +kernel
theorem dL_factor_34 : decode cL_factor 34 = .ok (.iconst 3, 1) := by decide +kernel
theorem dL_factor_35 : decode cL_factor 35 = .ok (.ireturn, 1) := by decide +kernel
theorem dL_factor_36 : decode cL_factor 36 = .ok (.iconst 0, 1) := by decide +kernel
theorem dL_factor_37 : decode cL_factor 37 = .ok (.ireturn, 1) := by decide +kernel
theorem dL_right_0 : decode cL_right 0 = .ok (.aload 6, 2) := by decide +kernel
theorem dL_right_2 : decode cL_right 2 = .ok (.iconst 0, 1) := by decide +kernel
theorem dL_right_3 : decode cL_right 3 = .ok (.aload_n 0, 1) := by decide +kernel
theorem dL_right_4 : decode cL_right 4 = .ok (.iload_n 1, 1) := by decide +kernel
theorem dL_right_5 : decode cL_right 5 = .ok (.lload_n 2, 1) := by decide +kernel
theorem dL_right_6 : decode cL_right 6 = .ok (.lload 4, 2) := by decide +kernel
theorem dL_right_8 : decode cL_right 8 = .ok (.invokevirtual 19, 3) := by decide +kernel
theorem dL_right_11 : decode cL_right 11 = .ok (.ifCond .eq 7, 3) := by decide +kernel
theorem dL_right_14 : decode cL_right 14 = .ok (.lconst 1, 1) := by decide +kernel
theorem dL_right_15 : decode cL_right 15 = .ok (.goto 4, 3) := by decide +kernel
theorem dL_right_18 : decode cL_right 18 = .ok (.lconst 0, 1) := by decide +kernel
theorem dL_right_19 : decode cL_right 19 = .ok (.lastore, 1) := by decide +kernel
theorem dL_right_20 : decode cL_right 20 = .ok (.goto 11, 3) := by decide +kernel
theorem dL_right_23 : decode cL_right 23 = .ok (.astore 7, 2) := by decide +kernel
theorem dL_right_25 : decode cL_right 25 = .ok (.iconst 1, 1) := by decide +kernel
theorem dL_right_26 : decode cL_right 26 = .ok (.ireturn, 1) := by decide +kernel
theorem dL_right_27 : decode cL_right 27 = .ok (.astore 7, 2) := by decide +kernel
theorem dL_right_29 : decode cL_right 29 = .ok (.iconst 2, 1) := by decide +kernel
theorem dL_right_30 : decode cL_right 30 = .ok (.ireturn, 1) := by decide +kernel
theorem dL_right_31 : decode cL_right 31 = .ok (.iconst 0, 1) := by decide +kernel
theorem dL_right_32 : decode cL_right 32 = .ok (.ireturn, 1) := by decide +kernel
theorem dL_polynomials_0 : decode cL_polynomials 0 = .ok (.aload_n 1, 1) := by decide +kernel
theorem dL_polynomials_1 : decode cL_polynomials 1 = .ok (.iconst 0, 1) := by decide +kernel
theorem dL_polynomials_2 : decode cL_polynomials 2 = .ok (.aload_n 0, 1) := by decide +kernel
theorem dL_polynomials_3 : decode cL_polynomials 3 = .ok (.invokevirtual 23, 3) := by decide +kernel
theorem dL_polynomials_6 : decode cL_polynomials 6 = .ok (.i2l, 1) := by decide +kernel
theorem dL_polynomials_7 : decode cL_polynomials 7 = .ok (.lastore, 1) := by decide +kernel
theorem dL_polynomials_8 : decode cL_polynomials 8 = .ok (.goto 6, 3) := by decide +kernel
theorem dL_polynomials_11 : decode cL_polynomials 11 = .ok (.astore_n 2, 1) := by decide +kernel
theorem dL_polynomials_12 : decode cL_polynomials 12 = .ok (.iconst 1, 1) := by decide +kernel
theorem dL_polynomials_13 : decode cL_polynomials 13 = .ok (.ireturn, 1) := by decide +kernel
theorem dL_polynomials_14 : decode cL_polynomials 14 = .ok (.iconst 0, 1) := by decide +kernel
theorem dL_polynomials_15 : decode cL_polynomials 15 = .ok (.ireturn, 1) := by decide +kernel
theorem dL_answer_0 : decode cL_answer 0 = .ok (.aload_n 3, 1) := by decide +kernel
theorem dL_answer_1 : decode cL_answer 1 = .ok (.iconst 0, 1) := by decide +kernel
theorem dL_answer_2 : decode cL_answer 2 = .ok (.aload_n 0, 1) := by decide +kernel
theorem dL_answer_3 : decode cL_answer 3 = .ok (.iload_n 1, 1) := by decide +kernel
theorem dL_answer_4 : decode cL_answer 4 = .ok (.iload_n 2, 1) := by decide +kernel
theorem dL_answer_5 : decode cL_answer 5 = .ok (.invokevirtual 29, 3) := by decide +kernel
theorem dL_answer_8 : decode cL_answer 8 = .ok (.i2l, 1) := by decide +kernel
theorem dL_answer_9 : decode cL_answer 9 = .ok (.lastore, 1) := by decide +kernel
theorem dL_answer_10 : decode cL_answer 10 = .ok (.goto 11, 3) := by decide +kernel
theorem dL_answer_13 : decode cL_answer 13 = .ok (.astore 4, 2) := by decide +kernel
theorem dL_answer_15 : decode cL_answer 15 = .ok (.iconst 1, 1) := by decide +kernel
theorem dL_answer_16 : decode cL_answer 16 = .ok (.ireturn, 1) := by decide +kernel
theorem dL_answer_17 : decode cL_answer 17 = .ok (.astore 4, 2) := by decide +kernel
theorem dL_answer_19 : decode cL_answer 19 = .ok (.iconst 2, 1) := by decide +kernel
theorem dL_answer_20 : decode cL_answer 20 = .ok (.ireturn, 1) := by decide +kernel
theorem dL_answer_21 : decode cL_answer 21 = .ok (.iconst 0, 1) := by decide +kernel
theorem dL_answer_22 : decode cL_answer 22 = .ok (.ireturn, 1) := by decide +kernel
theorem dL_meets_0 : decode cL_meets 0 = .ok (.aload_n 1, 1) := by decide +kernel
theorem dL_meets_1 : decode cL_meets 1 = .ok (.iconst 0, 1) := by decide +kernel
theorem dL_meets_2 : decode cL_meets 2 = .ok (.aload_n 0, 1) := by decide +kernel
theorem dL_meets_3 : decode cL_meets 3 = .ok (.invokevirtual 33, 3) := by decide +kernel
theorem dL_meets_6 : decode cL_meets 6 = .ok (.ifCond .eq 7, 3) := by decide +kernel
theorem dL_meets_9 : decode cL_meets 9 = .ok (.lconst 1, 1) := by decide +kernel
theorem dL_meets_10 : decode cL_meets 10 = .ok (.goto 4, 3) := by decide +kernel
theorem dL_meets_13 : decode cL_meets 13 = .ok (.lconst 0, 1) := by decide +kernel
theorem dL_meets_14 : decode cL_meets 14 = .ok (.lastore, 1) := by decide +kernel
theorem dL_meets_15 : decode cL_meets 15 = .ok (.goto 6, 3) := by decide +kernel
theorem dL_meets_18 : decode cL_meets 18 = .ok (.astore_n 2, 1) := by decide +kernel
theorem dL_meets_19 : decode cL_meets 19 = .ok (.iconst 1, 1) := by decide +kernel
theorem dL_meets_20 : decode cL_meets 20 = .ok (.ireturn, 1) := by decide +kernel
theorem dL_meets_21 : decode cL_meets 21 = .ok (.iconst 0, 1) := by decide +kernel
theorem dL_meets_22 : decode cL_meets 22 = .ok (.ireturn, 1) := by decide +kernel
theorem dL_powers_0 : decode cL_powers 0 = .ok (.aload_n 1, 1) := by decide +kernel
theorem dL_powers_1 : decode cL_powers 1 = .ok (.iconst 0, 1) := by decide +kernel
theorem dL_powers_2 : decode cL_powers 2 = .ok (.aload_n 0, 1) := by decide +kernel
theorem dL_powers_3 : decode cL_powers 3 = .ok (.invokevirtual 37, 3) := by decide +kernel
theorem dL_powers_6 : decode cL_powers 6 = .ok (.i2l, 1) := by decide +kernel
theorem dL_powers_7 : decode cL_powers 7 = .ok (.lastore, 1) := by decide +kernel
theorem dL_powers_8 : decode cL_powers 8 = .ok (.goto 6, 3) := by decide +kernel
theorem dL_powers_11 : decode cL_powers 11 = .ok (.astore_n 2, 1) := by decide +kernel
theorem dL_powers_12 : decode cL_powers 12 = .ok (.iconst 1, 1) := by decide +kernel
theorem dL_powers_13 : decode cL_powers 13 = .ok (.ireturn, 1) := by decide +kernel
theorem dL_powers_14 : decode cL_powers 14 = .ok (.iconst 0, 1) := by decide +kernel
theorem dL_powers_15 : decode cL_powers 15 = .ok (.ireturn, 1) := by decide +kernel
theorem dL_base_0 : decode cL_base 0 = .ok (.aload_n 2, 1) := by decide +kernel
theorem dL_base_1 : decode cL_base 1 = .ok (.iconst 0, 1) := by decide +kernel
theorem dL_base_2 : decode cL_base 2 = .ok (.aload_n 0, 1) := by decide +kernel
theorem dL_base_3 : decode cL_base 3 = .ok (.iload_n 1, 1) := by decide +kernel
theorem dL_base_4 : decode cL_base 4 = .ok (.invokevirtual 40, 3) := by decide +kernel
theorem dL_base_7 : decode cL_base 7 = .ok (.i2l, 1) := by decide +kernel
theorem dL_base_8 : decode cL_base 8 = .ok (.lastore, 1) := by decide +kernel
theorem dL_base_9 : decode cL_base 9 = .ok (.goto 6, 3) := by decide +kernel
theorem dL_base_12 : decode cL_base 12 = .ok (.astore_n 3, 1) := by decide +kernel
theorem dL_base_13 : decode cL_base 13 = .ok (.iconst 1, 1) := by decide +kernel
theorem dL_base_14 : decode cL_base 14 = .ok (.ireturn, 1) := by decide +kernel
theorem dL_base_15 : decode cL_base 15 = .ok (.iconst 0, 1) := by decide +kernel
theorem dL_base_16 : decode cL_base 16 = .ok (.ireturn, 1) := by decide +kernel
theorem dL_many_0 : decode cL_many 0 = .ok (.aload_n 2, 1) := by decide +kernel
theorem dL_many_1 : decode cL_many 1 = .ok (.iconst 0, 1) := by decide +kernel
theorem dL_many_2 : decode cL_many 2 = .ok (.aload_n 0, 1) := by decide +kernel
theorem dL_many_3 : decode cL_many 3 = .ok (.iload_n 1, 1) := by decide +kernel
theorem dL_many_4 : decode cL_many 4 = .ok (.invokevirtual 44, 3) := by decide +kernel
theorem dL_many_7 : decode cL_many 7 = .ok (.i2l, 1) := by decide +kernel
theorem dL_many_8 : decode cL_many 8 = .ok (.lastore, 1) := by decide +kernel
theorem dL_many_9 : decode cL_many 9 = .ok (.goto 6, 3) := by decide +kernel
theorem dL_many_12 : decode cL_many 12 = .ok (.astore_n 3, 1) := by decide +kernel
theorem dL_many_13 : decode cL_many 13 = .ok (.iconst 1, 1) := by decide +kernel
theorem dL_many_14 : decode cL_many 14 = .ok (.ireturn, 1) := by decide +kernel
theorem dL_many_15 : decode cL_many 15 = .ok (.iconst 0, 1) := by decide +kernel
theorem dL_many_16 : decode cL_many 16 = .ok (.ireturn, 1) := by decide +kernel
theorem dL_times_0 : decode cL_times 0 = .ok (.aload 4, 2) := by decide +kernel
theorem dL_times_2 : decode cL_times 2 = .ok (.iconst 0, 1) := by decide +kernel
theorem dL_times_3 : decode cL_times 3 = .ok (.aload_n 0, 1) := by decide +kernel
theorem dL_times_4 : decode cL_times 4 = .ok (.iload_n 1, 1) := by decide +kernel
theorem dL_times_5 : decode cL_times 5 = .ok (.iload_n 2, 1) := by decide +kernel
theorem dL_times_6 : decode cL_times 6 = .ok (.iload_n 3, 1) := by decide +kernel
theorem dL_times_7 : decode cL_times 7 = .ok (.invokevirtual 47, 3) := by decide +kernel
theorem dL_times_10 : decode cL_times 10 = .ok (.i2l, 1) := by decide +kernel
theorem dL_times_11 : decode cL_times 11 = .ok (.lastore, 1) := by decide +kernel
theorem dL_times_12 : decode cL_times 12 = .ok (.goto 11, 3) := by decide +kernel
theorem dL_times_15 : decode cL_times 15 = .ok (.astore 5, 2) := by decide +kernel
theorem dL_times_17 : decode cL_times 17 = .ok (.iconst 1, 1) := by decide +kernel
theorem dL_times_18 : decode cL_times 18 = .ok (.ireturn, 1) := by decide +kernel
theorem dL_times_19 : decode cL_times 19 = .ok (.astore 5, 2) := by decide +kernel
theorem dL_times_21 : decode cL_times 21 = .ok (.iconst 2, 1) := by decide +kernel
theorem dL_times_22 : decode cL_times 22 = .ok (.ireturn, 1) := by decide +kernel
theorem dL_times_23 : decode cL_times 23 = .ok (.iconst 0, 1) := by decide +kernel
theorem dL_times_24 : decode cL_times 24 = .ok (.ireturn, 1) := by decide +kernel
theorem dL_value_0 : decode cL_value 0 = .ok (.aload_n 2, 1) := by decide +kernel
theorem dL_value_1 : decode cL_value 1 = .ok (.iconst 0, 1) := by decide +kernel
theorem dL_value_2 : decode cL_value 2 = .ok (.aload_n 0, 1) := by decide +kernel
theorem dL_value_3 : decode cL_value 3 = .ok (.iload_n 1, 1) := by decide +kernel
theorem dL_value_4 : decode cL_value 4 = .ok (.invokevirtual 51, 3) := by decide +kernel
theorem dL_value_7 : decode cL_value 7 = .ok (.i2l, 1) := by decide +kernel
theorem dL_value_8 : decode cL_value 8 = .ok (.lastore, 1) := by decide +kernel
theorem dL_value_9 : decode cL_value 9 = .ok (.goto 6, 3) := by decide +kernel
theorem dL_value_12 : decode cL_value 12 = .ok (.astore_n 3, 1) := by decide +kernel
theorem dL_value_13 : decode cL_value 13 = .ok (.iconst 1, 1) := by decide +kernel
theorem dL_value_14 : decode cL_value 14 = .ok (.ireturn, 1) := by decide +kernel
theorem dL_value_15 : decode cL_value 15 = .ok (.iconst 0, 1) := by decide +kernel
theorem dL_value_16 : decode cL_value 16 = .ok (.ireturn, 1) := by decide +kernel
theorem dL_end_0 : decode cL_end 0 = .ok (.aload_n 2, 1) := by decide +kernel
theorem dL_end_1 : decode cL_end 1 = .ok (.iconst 0, 1) := by decide +kernel
theorem dL_end_2 : decode cL_end 2 = .ok (.aload_n 0, 1) := by decide +kernel
theorem dL_end_3 : decode cL_end 3 = .ok (.iload_n 1, 1) := by decide +kernel
theorem dL_end_4 : decode cL_end 4 = .ok (.invokevirtual 54, 3) := by decide +kernel
theorem dL_end_7 : decode cL_end 7 = .ok (.i2l, 1) := by decide +kernel
theorem dL_end_8 : decode cL_end 8 = .ok (.lastore, 1) := by decide +kernel
theorem dL_end_9 : decode cL_end 9 = .ok (.goto 6, 3) := by decide +kernel
theorem dL_end_12 : decode cL_end 12 = .ok (.astore_n 3, 1) := by decide +kernel
theorem dL_end_13 : decode cL_end 13 = .ok (.iconst 1, 1) := by decide +kernel
theorem dL_end_14 : decode cL_end 14 = .ok (.ireturn, 1) := by decide +kernel
theorem dL_end_15 : decode cL_end 15 = .ok (.iconst 0, 1) := by decide +kernel
theorem dL_end_16 : decode cL_end 16 = .ok (.ireturn, 1) := by decide +kernel
theorem dL_rest_0 : decode cL_rest 0 = .ok (.aload_n 2, 1) := by decide +kernel
theorem dL_rest_1 : decode cL_rest 1 = .ok (.iconst 0, 1) := by decide +kernel
theorem dL_rest_2 : decode cL_rest 2 = .ok (.aload_n 0, 1) := by decide +kernel
theorem dL_rest_3 : decode cL_rest 3 = .ok (.iload_n 1, 1) := by decide +kernel
theorem dL_rest_4 : decode cL_rest 4 = .ok (.invokevirtual 57, 3) := by decide +kernel
theorem dL_rest_7 : decode cL_rest 7 = .ok (.i2l, 1) := by decide +kernel
theorem dL_rest_8 : decode cL_rest 8 = .ok (.lastore, 1) := by decide +kernel
theorem dL_rest_9 : decode cL_rest 9 = .ok (.goto 6, 3) := by decide +kernel
theorem dL_rest_12 : decode cL_rest 12 = .ok (.astore_n 3, 1) := by decide +kernel
theorem dL_rest_13 : decode cL_rest 13 = .ok (.iconst 1, 1) := by decide +kernel
theorem dL_rest_14 : decode cL_rest 14 = .ok (.ireturn, 1) := by decide +kernel
theorem dL_rest_15 : decode cL_rest 15 = .ok (.iconst 0, 1) := by decide +kernel
theorem dL_rest_16 : decode cL_rest 16 = .ok (.ireturn, 1) := by decide +kernel
theorem dL_put_0 : decode cL_put 0 = .ok (.aload_n 3, 1) := by decide +kernel
theorem dL_put_1 : decode cL_put 1 = .ok (.iconst 0, 1) := by decide +kernel
theorem dL_put_2 : decode cL_put 2 = .ok (.aload_n 0, 1) := by decide +kernel
theorem dL_put_3 : decode cL_put 3 = .ok (.iload_n 1, 1) := by decide +kernel
theorem dL_put_4 : decode cL_put 4 = .ok (.iload_n 2, 1) := by decide +kernel
theorem dL_put_5 : decode cL_put 5 = .ok (.invokevirtual 60, 3) := by decide +kernel
theorem dL_put_8 : decode cL_put 8 = .ok (.ifCond .eq 7, 3) := by decide +kernel
theorem dL_put_11 : decode cL_put 11 = .ok (.lconst 1, 1) := by decide +kernel
theorem dL_put_12 : decode cL_put 12 = .ok (.goto 4, 3) := by decide +kernel
theorem dL_put_15 : decode cL_put 15 = .ok (.lconst 0, 1) := by decide +kernel
theorem dL_put_16 : decode cL_put 16 = .ok (.lastore, 1) := by decide +kernel
theorem dL_put_17 : decode cL_put 17 = .ok (.goto 7, 3) := by decide +kernel
theorem dL_put_20 : decode cL_put 20 = .ok (.astore 4, 2) := by decide +kernel
theorem dL_put_22 : decode cL_put 22 = .ok (.iconst 1, 1) := by decide +kernel
theorem dL_put_23 : decode cL_put 23 = .ok (.ireturn, 1) := by decide +kernel
theorem dL_put_24 : decode cL_put 24 = .ok (.iconst 0, 1) := by decide +kernel
theorem dL_put_25 : decode cL_put 25 = .ok (.ireturn, 1) := by decide +kernel
theorem dL_law_0 : decode cL_law 0 = .ok (.new 8, 3) := by decide +kernel
theorem dL_law_3 : decode cL_law 3 = .ok (.dup, 1) := by decide +kernel
theorem dL_law_4 : decode cL_law 4 = .ok (.aload_n 0, 1) := by decide +kernel
theorem dL_law_5 : decode cL_law 5 = .ok (.iconst 0, 1) := by decide +kernel
theorem dL_law_6 : decode cL_law 6 = .ok (.invokestatic 64, 3) := by decide +kernel
theorem dL_law_9 : decode cL_law 9 = .ok (.invokespecial 70, 3) := by decide +kernel
theorem dL_law_12 : decode cL_law 12 = .ok (.astore_n 1, 1) := by decide +kernel
theorem dL_law_13 : decode cL_law 13 = .ok (.new 73, 3) := by decide +kernel
theorem dL_law_16 : decode cL_law 16 = .ok (.dup, 1) := by decide +kernel
theorem dL_law_17 : decode cL_law 17 = .ok (.aload_n 0, 1) := by decide +kernel
theorem dL_law_18 : decode cL_law 18 = .ok (.iconst 0, 1) := by decide +kernel
theorem dL_law_19 : decode cL_law 19 = .ok (.invokestatic 64, 3) := by decide +kernel
theorem dL_law_22 : decode cL_law 22 = .ok (.invokespecial 75, 3) := by decide +kernel
theorem dL_law_25 : decode cL_law 25 = .ok (.astore_n 2, 1) := by decide +kernel
theorem dL_law_26 : decode cL_law 26 = .ok (.iconst 1, 1) := by decide +kernel
theorem dL_law_27 : decode cL_law 27 = .ok (.newarray .long, 2) := by decide +kernel
theorem dL_law_29 : decode cL_law 29 = .ok (.astore_n 3, 1) := by decide +kernel
theorem dL_law_30 : decode cL_law 30 = .ok (.iconst 1, 1) := by decide +kernel
theorem dL_law_31 : decode cL_law 31 = .ok (.istore 4, 2) := by decide +kernel
theorem dL_law_33 : decode cL_law 33 = .ok (.iload 4, 2) := by decide +kernel
theorem dL_law_35 : decode cL_law 35 = .ok (.aload_n 0, 1) := by decide +kernel
theorem dL_law_36 : decode cL_law 36 = .ok (.arraylength, 1) := by decide +kernel
theorem dL_law_37 : decode cL_law 37 = .ok (.bipush 7, 2) := by decide +kernel
theorem dL_law_39 : decode cL_law 39 = .ok (.isub, 1) := by decide +kernel
theorem dL_law_40 : decode cL_law 40 = .ok (.if_icmp .gt 1162, 3) := by decide +kernel
theorem dL_law_43 : decode cL_law 43 = .ok (.aload_n 0, 1) := by decide +kernel
theorem dL_law_44 : decode cL_law 44 = .ok (.iload 4, 2) := by decide +kernel
theorem dL_law_46 : decode cL_law 46 = .ok (.iaload, 1) := by decide +kernel
theorem dL_law_47 : decode cL_law 47 = .ok (.bipush 31, 2) := by decide +kernel
theorem dL_law_49 : decode cL_law 49 = .ok (.iand, 1) := by decide +kernel
theorem dL_law_50 : decode cL_law 50 = .ok (.tableswitch 1146 0 16 #[82, 247, 398, 411, 455, 523, 574, 618, 674, 730, 810, 867, 923, 948, 1004, 1060, 1135], 82) := by decide +kernel
theorem dL_law_132 : decode cL_law 132 = .ok (.aload_n 1, 1) := by decide +kernel
theorem dL_law_133 : decode cL_law 133 = .ok (.aload_n 0, 1) := by decide +kernel
theorem dL_law_134 : decode cL_law 134 = .ok (.iload 4, 2) := by decide +kernel
theorem dL_law_136 : decode cL_law 136 = .ok (.iconst 1, 1) := by decide +kernel
theorem dL_law_137 : decode cL_law 137 = .ok (.iadd, 1) := by decide +kernel
theorem dL_law_138 : decode cL_law 138 = .ok (.iaload, 1) := by decide +kernel
theorem dL_law_139 : decode cL_law 139 = .ok (.aload_n 0, 1) := by decide +kernel
theorem dL_law_140 : decode cL_law 140 = .ok (.iload 4, 2) := by decide +kernel
theorem dL_law_142 : decode cL_law 142 = .ok (.iconst 2, 1) := by decide +kernel
theorem dL_law_143 : decode cL_law 143 = .ok (.iadd, 1) := by decide +kernel
theorem dL_law_144 : decode cL_law 144 = .ok (.iaload, 1) := by decide +kernel
theorem dL_law_145 : decode cL_law 145 = .ok (.aload_n 0, 1) := by decide +kernel
theorem dL_law_146 : decode cL_law 146 = .ok (.iload 4, 2) := by decide +kernel
theorem dL_law_148 : decode cL_law 148 = .ok (.iconst 3, 1) := by decide +kernel
theorem dL_law_149 : decode cL_law 149 = .ok (.iadd, 1) := by decide +kernel
theorem dL_law_150 : decode cL_law 150 = .ok (.iaload, 1) := by decide +kernel
theorem dL_law_151 : decode cL_law 151 = .ok (.i2l, 1) := by decide +kernel
theorem dL_law_152 : decode cL_law 152 = .ok (.bipush 32, 2) := by decide +kernel
theorem dL_law_154 : decode cL_law 154 = .ok (.lshl, 1) := by decide +kernel
theorem dL_law_155 : decode cL_law 155 = .ok (.aload_n 0, 1) := by decide +kernel
theorem dL_law_156 : decode cL_law 156 = .ok (.iload 4, 2) := by decide +kernel
theorem dL_law_158 : decode cL_law 158 = .ok (.iconst 4, 1) := by decide +kernel
theorem dL_law_159 : decode cL_law 159 = .ok (.iadd, 1) := by decide +kernel
theorem dL_law_160 : decode cL_law 160 = .ok (.iaload, 1) := by decide +kernel
theorem dL_law_161 : decode cL_law 161 = .ok (.i2l, 1) := by decide +kernel
theorem dL_law_162 : decode cL_law 162 = .ok (.ldc2_w 76, 3) := by decide +kernel
theorem dL_law_165 : decode cL_law 165 = .ok (.land, 1) := by decide +kernel
theorem dL_law_166 : decode cL_law 166 = .ok (.lor, 1) := by decide +kernel
theorem dL_law_167 : decode cL_law 167 = .ok (.aload_n 0, 1) := by decide +kernel
theorem dL_law_168 : decode cL_law 168 = .ok (.iload 4, 2) := by decide +kernel
theorem dL_law_170 : decode cL_law 170 = .ok (.iconst 5, 1) := by decide +kernel
theorem dL_law_171 : decode cL_law 171 = .ok (.iadd, 1) := by decide +kernel
theorem dL_law_172 : decode cL_law 172 = .ok (.iaload, 1) := by decide +kernel
theorem dL_law_173 : decode cL_law 173 = .ok (.i2l, 1) := by decide +kernel
theorem dL_law_174 : decode cL_law 174 = .ok (.bipush 32, 2) := by decide +kernel
theorem dL_law_176 : decode cL_law 176 = .ok (.lshl, 1) := by decide +kernel
theorem dL_law_177 : decode cL_law 177 = .ok (.aload_n 0, 1) := by decide +kernel
theorem dL_law_178 : decode cL_law 178 = .ok (.iload 4, 2) := by decide +kernel
theorem dL_law_180 : decode cL_law 180 = .ok (.bipush 6, 2) := by decide +kernel
theorem dL_law_182 : decode cL_law 182 = .ok (.iadd, 1) := by decide +kernel
theorem dL_law_183 : decode cL_law 183 = .ok (.iaload, 1) := by decide +kernel
theorem dL_law_184 : decode cL_law 184 = .ok (.i2l, 1) := by decide +kernel
theorem dL_law_185 : decode cL_law 185 = .ok (.ldc2_w 76, 3) := by decide +kernel
theorem dL_law_188 : decode cL_law 188 = .ok (.land, 1) := by decide +kernel
theorem dL_law_189 : decode cL_law 189 = .ok (.lor, 1) := by decide +kernel
theorem dL_law_190 : decode cL_law 190 = .ok (.aload_n 3, 1) := by decide +kernel
theorem dL_law_191 : decode cL_law 191 = .ok (.invokestatic 78, 3) := by decide +kernel
theorem dL_law_194 : decode cL_law 194 = .ok (.istore 5, 2) := by decide +kernel
theorem dL_law_196 : decode cL_law 196 = .ok (.aload_n 2, 1) := by decide +kernel
theorem dL_law_197 : decode cL_law 197 = .ok (.aload_n 0, 1) := by decide +kernel
theorem dL_law_198 : decode cL_law 198 = .ok (.iload 4, 2) := by decide +kernel
theorem dL_law_200 : decode cL_law 200 = .ok (.iconst 1, 1) := by decide +kernel
theorem dL_law_201 : decode cL_law 201 = .ok (.iadd, 1) := by decide +kernel
theorem dL_law_202 : decode cL_law 202 = .ok (.iaload, 1) := by decide +kernel
theorem dL_law_203 : decode cL_law 203 = .ok (.aload_n 0, 1) := by decide +kernel
theorem dL_law_204 : decode cL_law 204 = .ok (.iload 4, 2) := by decide +kernel
theorem dL_law_206 : decode cL_law 206 = .ok (.iconst 2, 1) := by decide +kernel
theorem dL_law_207 : decode cL_law 207 = .ok (.iadd, 1) := by decide +kernel
theorem dL_law_208 : decode cL_law 208 = .ok (.iaload, 1) := by decide +kernel
theorem dL_law_209 : decode cL_law 209 = .ok (.aload_n 0, 1) := by decide +kernel
theorem dL_law_210 : decode cL_law 210 = .ok (.iload 4, 2) := by decide +kernel
theorem dL_law_212 : decode cL_law 212 = .ok (.iconst 3, 1) := by decide +kernel
theorem dL_law_213 : decode cL_law 213 = .ok (.iadd, 1) := by decide +kernel
theorem dL_law_214 : decode cL_law 214 = .ok (.iaload, 1) := by decide +kernel
theorem dL_law_215 : decode cL_law 215 = .ok (.i2l, 1) := by decide +kernel
theorem dL_law_216 : decode cL_law 216 = .ok (.bipush 32, 2) := by decide +kernel
theorem dL_law_218 : decode cL_law 218 = .ok (.lshl, 1) := by decide +kernel
theorem dL_law_219 : decode cL_law 219 = .ok (.aload_n 0, 1) := by decide +kernel
theorem dL_law_220 : decode cL_law 220 = .ok (.iload 4, 2) := by decide +kernel
theorem dL_law_222 : decode cL_law 222 = .ok (.iconst 4, 1) := by decide +kernel
theorem dL_law_223 : decode cL_law 223 = .ok (.iadd, 1) := by decide +kernel
theorem dL_law_224 : decode cL_law 224 = .ok (.iaload, 1) := by decide +kernel
theorem dL_law_225 : decode cL_law 225 = .ok (.i2l, 1) := by decide +kernel
theorem dL_law_226 : decode cL_law 226 = .ok (.ldc2_w 76, 3) := by decide +kernel
theorem dL_law_229 : decode cL_law 229 = .ok (.land, 1) := by decide +kernel
theorem dL_law_230 : decode cL_law 230 = .ok (.lor, 1) := by decide +kernel
theorem dL_law_231 : decode cL_law 231 = .ok (.aload_n 0, 1) := by decide +kernel
theorem dL_law_232 : decode cL_law 232 = .ok (.iload 4, 2) := by decide +kernel
theorem dL_law_234 : decode cL_law 234 = .ok (.iconst 5, 1) := by decide +kernel
theorem dL_law_235 : decode cL_law 235 = .ok (.iadd, 1) := by decide +kernel
theorem dL_law_236 : decode cL_law 236 = .ok (.iaload, 1) := by decide +kernel
theorem dL_law_237 : decode cL_law 237 = .ok (.i2l, 1) := by decide +kernel
theorem dL_law_238 : decode cL_law 238 = .ok (.bipush 32, 2) := by decide +kernel
theorem dL_law_240 : decode cL_law 240 = .ok (.lshl, 1) := by decide +kernel
theorem dL_law_241 : decode cL_law 241 = .ok (.aload_n 0, 1) := by decide +kernel
theorem dL_law_242 : decode cL_law 242 = .ok (.iload 4, 2) := by decide +kernel
theorem dL_law_244 : decode cL_law 244 = .ok (.bipush 6, 2) := by decide +kernel
theorem dL_law_246 : decode cL_law 246 = .ok (.iadd, 1) := by decide +kernel
theorem dL_law_247 : decode cL_law 247 = .ok (.iaload, 1) := by decide +kernel
theorem dL_law_248 : decode cL_law 248 = .ok (.i2l, 1) := by decide +kernel
theorem dL_law_249 : decode cL_law 249 = .ok (.ldc2_w 76, 3) := by decide +kernel
theorem dL_law_252 : decode cL_law 252 = .ok (.land, 1) := by decide +kernel
theorem dL_law_253 : decode cL_law 253 = .ok (.lor, 1) := by decide +kernel
theorem dL_law_254 : decode cL_law 254 = .ok (.invokevirtual 81, 3) := by decide +kernel
theorem dL_law_257 : decode cL_law 257 = .ok (.istore 6, 2) := by decide +kernel
theorem dL_law_259 : decode cL_law 259 = .ok (.aload_n 2, 1) := by decide +kernel
theorem dL_law_260 : decode cL_law 260 = .ok (.invokevirtual 82, 3) := by decide +kernel
theorem dL_law_263 : decode cL_law 263 = .ok (.iload 5, 2) := by decide +kernel
theorem dL_law_265 : decode cL_law 265 = .ok (.if_icmp .eq 5, 3) := by decide +kernel
theorem dL_law_268 : decode cL_law 268 = .ok (.iconst 0, 1) := by decide +kernel
theorem dL_law_269 : decode cL_law 269 = .ok (.ireturn, 1) := by decide +kernel
theorem dL_law_270 : decode cL_law 270 = .ok (.iload 5, 2) := by decide +kernel
theorem dL_law_272 : decode cL_law 272 = .ok (.ifCond .ne 22, 3) := by decide +kernel
theorem dL_law_275 : decode cL_law 275 = .ok (.aload_n 3, 1) := by decide +kernel
theorem dL_law_276 : decode cL_law 276 = .ok (.iconst 0, 1) := by decide +kernel
theorem dL_law_277 : decode cL_law 277 = .ok (.laload, 1) := by decide +kernel
theorem dL_law_278 : decode cL_law 278 = .ok (.iload 6, 2) := by decide +kernel
theorem dL_law_280 : decode cL_law 280 = .ok (.ifCond .eq 7, 3) := by decide +kernel
theorem dL_law_283 : decode cL_law 283 = .ok (.lconst 1, 1) := by decide +kernel
theorem dL_law_284 : decode cL_law 284 = .ok (.goto 4, 3) := by decide +kernel
theorem dL_law_287 : decode cL_law 287 = .ok (.lconst 0, 1) := by decide +kernel
theorem dL_law_288 : decode cL_law 288 = .ok (.lcmp, 1) := by decide +kernel
theorem dL_law_289 : decode cL_law 289 = .ok (.ifCond .eq 5, 3) := by decide +kernel
theorem dL_law_292 : decode cL_law 292 = .ok (.iconst 0, 1) := by decide +kernel
theorem dL_law_293 : decode cL_law 293 = .ok (.ireturn, 1) := by decide +kernel
theorem dL_law_294 : decode cL_law 294 = .ok (.goto 902, 3) := by decide +kernel
theorem dL_law_297 : decode cL_law 297 = .ok (.aload_n 1, 1) := by decide +kernel
theorem dL_law_298 : decode cL_law 298 = .ok (.aload_n 0, 1) := by decide +kernel
theorem dL_law_299 : decode cL_law 299 = .ok (.iload 4, 2) := by decide +kernel
theorem dL_law_301 : decode cL_law 301 = .ok (.iconst 1, 1) := by decide +kernel
theorem dL_law_302 : decode cL_law 302 = .ok (.iadd, 1) := by decide +kernel
theorem dL_law_303 : decode cL_law 303 = .ok (.iaload, 1) := by decide +kernel
theorem dL_law_304 : decode cL_law 304 = .ok (.aload_n 0, 1) := by decide +kernel
theorem dL_law_305 : decode cL_law 305 = .ok (.iload 4, 2) := by decide +kernel
theorem dL_law_307 : decode cL_law 307 = .ok (.iconst 2, 1) := by decide +kernel
theorem dL_law_308 : decode cL_law 308 = .ok (.iadd, 1) := by decide +kernel
theorem dL_law_309 : decode cL_law 309 = .ok (.iaload, 1) := by decide +kernel
theorem dL_law_310 : decode cL_law 310 = .ok (.i2l, 1) := by decide +kernel
theorem dL_law_311 : decode cL_law 311 = .ok (.bipush 32, 2) := by decide +kernel
theorem dL_law_313 : decode cL_law 313 = .ok (.lshl, 1) := by decide +kernel
theorem dL_law_314 : decode cL_law 314 = .ok (.aload_n 0, 1) := by decide +kernel
theorem dL_law_315 : decode cL_law 315 = .ok (.iload 4, 2) := by decide +kernel
theorem dL_law_317 : decode cL_law 317 = .ok (.iconst 3, 1) := by decide +kernel
theorem dL_law_318 : decode cL_law 318 = .ok (.iadd, 1) := by decide +kernel
theorem dL_law_319 : decode cL_law 319 = .ok (.iaload, 1) := by decide +kernel
theorem dL_law_320 : decode cL_law 320 = .ok (.i2l, 1) := by decide +kernel
theorem dL_law_321 : decode cL_law 321 = .ok (.ldc2_w 76, 3) := by decide +kernel
theorem dL_law_324 : decode cL_law 324 = .ok (.land, 1) := by decide +kernel
theorem dL_law_325 : decode cL_law 325 = .ok (.lor, 1) := by decide +kernel
theorem dL_law_326 : decode cL_law 326 = .ok (.aload_n 0, 1) := by decide +kernel
theorem dL_law_327 : decode cL_law 327 = .ok (.iload 4, 2) := by decide +kernel
theorem dL_law_329 : decode cL_law 329 = .ok (.iconst 4, 1) := by decide +kernel
theorem dL_law_330 : decode cL_law 330 = .ok (.iadd, 1) := by decide +kernel
theorem dL_law_331 : decode cL_law 331 = .ok (.iaload, 1) := by decide +kernel
theorem dL_law_332 : decode cL_law 332 = .ok (.i2l, 1) := by decide +kernel
theorem dL_law_333 : decode cL_law 333 = .ok (.bipush 32, 2) := by decide +kernel
theorem dL_law_335 : decode cL_law 335 = .ok (.lshl, 1) := by decide +kernel
theorem dL_law_336 : decode cL_law 336 = .ok (.aload_n 0, 1) := by decide +kernel
theorem dL_law_337 : decode cL_law 337 = .ok (.iload 4, 2) := by decide +kernel
theorem dL_law_339 : decode cL_law 339 = .ok (.iconst 5, 1) := by decide +kernel
theorem dL_law_340 : decode cL_law 340 = .ok (.iadd, 1) := by decide +kernel
theorem dL_law_341 : decode cL_law 341 = .ok (.iaload, 1) := by decide +kernel
theorem dL_law_342 : decode cL_law 342 = .ok (.i2l, 1) := by decide +kernel
theorem dL_law_343 : decode cL_law 343 = .ok (.ldc2_w 76, 3) := by decide +kernel
theorem dL_law_346 : decode cL_law 346 = .ok (.land, 1) := by decide +kernel
theorem dL_law_347 : decode cL_law 347 = .ok (.lor, 1) := by decide +kernel
theorem dL_law_348 : decode cL_law 348 = .ok (.aload_n 3, 1) := by decide +kernel
theorem dL_law_349 : decode cL_law 349 = .ok (.invokestatic 85, 3) := by decide +kernel
theorem dL_law_352 : decode cL_law 352 = .ok (.istore 5, 2) := by decide +kernel
theorem dL_law_354 : decode cL_law 354 = .ok (.aload_n 2, 1) := by decide +kernel
theorem dL_law_355 : decode cL_law 355 = .ok (.aload_n 0, 1) := by decide +kernel
theorem dL_law_356 : decode cL_law 356 = .ok (.iload 4, 2) := by decide +kernel
theorem dL_law_358 : decode cL_law 358 = .ok (.iconst 1, 1) := by decide +kernel
theorem dL_law_359 : decode cL_law 359 = .ok (.iadd, 1) := by decide +kernel
theorem dL_law_360 : decode cL_law 360 = .ok (.iaload, 1) := by decide +kernel
theorem dL_law_361 : decode cL_law 361 = .ok (.aload_n 0, 1) := by decide +kernel
theorem dL_law_362 : decode cL_law 362 = .ok (.iload 4, 2) := by decide +kernel
theorem dL_law_364 : decode cL_law 364 = .ok (.iconst 2, 1) := by decide +kernel
theorem dL_law_365 : decode cL_law 365 = .ok (.iadd, 1) := by decide +kernel
theorem dL_law_366 : decode cL_law 366 = .ok (.iaload, 1) := by decide +kernel
theorem dL_law_367 : decode cL_law 367 = .ok (.i2l, 1) := by decide +kernel
theorem dL_law_368 : decode cL_law 368 = .ok (.bipush 32, 2) := by decide +kernel
theorem dL_law_370 : decode cL_law 370 = .ok (.lshl, 1) := by decide +kernel
theorem dL_law_371 : decode cL_law 371 = .ok (.aload_n 0, 1) := by decide +kernel
theorem dL_law_372 : decode cL_law 372 = .ok (.iload 4, 2) := by decide +kernel
theorem dL_law_374 : decode cL_law 374 = .ok (.iconst 3, 1) := by decide +kernel
theorem dL_law_375 : decode cL_law 375 = .ok (.iadd, 1) := by decide +kernel
theorem dL_law_376 : decode cL_law 376 = .ok (.iaload, 1) := by decide +kernel
theorem dL_law_377 : decode cL_law 377 = .ok (.i2l, 1) := by decide +kernel
theorem dL_law_378 : decode cL_law 378 = .ok (.ldc2_w 76, 3) := by decide +kernel
theorem dL_law_381 : decode cL_law 381 = .ok (.land, 1) := by decide +kernel
theorem dL_law_382 : decode cL_law 382 = .ok (.lor, 1) := by decide +kernel
theorem dL_law_383 : decode cL_law 383 = .ok (.aload_n 0, 1) := by decide +kernel
theorem dL_law_384 : decode cL_law 384 = .ok (.iload 4, 2) := by decide +kernel
theorem dL_law_386 : decode cL_law 386 = .ok (.iconst 4, 1) := by decide +kernel
theorem dL_law_387 : decode cL_law 387 = .ok (.iadd, 1) := by decide +kernel
theorem dL_law_388 : decode cL_law 388 = .ok (.iaload, 1) := by decide +kernel
theorem dL_law_389 : decode cL_law 389 = .ok (.i2l, 1) := by decide +kernel
theorem dL_law_390 : decode cL_law 390 = .ok (.bipush 32, 2) := by decide +kernel
theorem dL_law_392 : decode cL_law 392 = .ok (.lshl, 1) := by decide +kernel
theorem dL_law_393 : decode cL_law 393 = .ok (.aload_n 0, 1) := by decide +kernel
theorem dL_law_394 : decode cL_law 394 = .ok (.iload 4, 2) := by decide +kernel
theorem dL_law_396 : decode cL_law 396 = .ok (.iconst 5, 1) := by decide +kernel
theorem dL_law_397 : decode cL_law 397 = .ok (.iadd, 1) := by decide +kernel
theorem dL_law_398 : decode cL_law 398 = .ok (.iaload, 1) := by decide +kernel
theorem dL_law_399 : decode cL_law 399 = .ok (.i2l, 1) := by decide +kernel
theorem dL_law_400 : decode cL_law 400 = .ok (.ldc2_w 76, 3) := by decide +kernel
theorem dL_law_403 : decode cL_law 403 = .ok (.land, 1) := by decide +kernel
theorem dL_law_404 : decode cL_law 404 = .ok (.lor, 1) := by decide +kernel
theorem dL_law_405 : decode cL_law 405 = .ok (.invokevirtual 88, 3) := by decide +kernel
theorem dL_law_408 : decode cL_law 408 = .ok (.istore 6, 2) := by decide +kernel
theorem dL_law_410 : decode cL_law 410 = .ok (.aload_n 2, 1) := by decide +kernel
theorem dL_law_411 : decode cL_law 411 = .ok (.invokevirtual 82, 3) := by decide +kernel
theorem dL_law_414 : decode cL_law 414 = .ok (.iload 5, 2) := by decide +kernel
theorem dL_law_416 : decode cL_law 416 = .ok (.if_icmp .eq 5, 3) := by decide +kernel
theorem dL_law_419 : decode cL_law 419 = .ok (.iconst 0, 1) := by decide +kernel
theorem dL_law_420 : decode cL_law 420 = .ok (.ireturn, 1) := by decide +kernel
theorem dL_law_421 : decode cL_law 421 = .ok (.iload 5, 2) := by decide +kernel
theorem dL_law_423 : decode cL_law 423 = .ok (.ifCond .ne 22, 3) := by decide +kernel
theorem dL_law_426 : decode cL_law 426 = .ok (.aload_n 3, 1) := by decide +kernel
theorem dL_law_427 : decode cL_law 427 = .ok (.iconst 0, 1) := by decide +kernel
theorem dL_law_428 : decode cL_law 428 = .ok (.laload, 1) := by decide +kernel
theorem dL_law_429 : decode cL_law 429 = .ok (.iload 6, 2) := by decide +kernel
theorem dL_law_431 : decode cL_law 431 = .ok (.ifCond .eq 7, 3) := by decide +kernel
theorem dL_law_434 : decode cL_law 434 = .ok (.lconst 1, 1) := by decide +kernel
theorem dL_law_435 : decode cL_law 435 = .ok (.goto 4, 3) := by decide +kernel
theorem dL_law_438 : decode cL_law 438 = .ok (.lconst 0, 1) := by decide +kernel
theorem dL_law_439 : decode cL_law 439 = .ok (.lcmp, 1) := by decide +kernel
theorem dL_law_440 : decode cL_law 440 = .ok (.ifCond .eq 5, 3) := by decide +kernel
theorem dL_law_443 : decode cL_law 443 = .ok (.iconst 0, 1) := by decide +kernel
theorem dL_law_444 : decode cL_law 444 = .ok (.ireturn, 1) := by decide +kernel
theorem dL_law_445 : decode cL_law 445 = .ok (.goto 751, 3) := by decide +kernel
theorem dL_law_448 : decode cL_law 448 = .ok (.aload_n 1, 1) := by decide +kernel
theorem dL_law_449 : decode cL_law 449 = .ok (.invokevirtual 89, 3) := by decide +kernel
theorem dL_law_452 : decode cL_law 452 = .ok (.aload_n 2, 1) := by decide +kernel
theorem dL_law_453 : decode cL_law 453 = .ok (.invokevirtual 92, 3) := by decide +kernel
theorem dL_law_456 : decode cL_law 456 = .ok (.if_icmp .eq 740, 3) := by decide +kernel
theorem dL_law_459 : decode cL_law 459 = .ok (.iconst 0, 1) := by decide +kernel
theorem dL_law_460 : decode cL_law 460 = .ok (.ireturn, 1) := by decide +kernel
theorem dL_law_461 : decode cL_law 461 = .ok (.aload_n 1, 1) := by decide +kernel
theorem dL_law_462 : decode cL_law 462 = .ok (.aload_n 3, 1) := by decide +kernel
theorem dL_law_463 : decode cL_law 463 = .ok (.invokestatic 93, 3) := by decide +kernel
theorem dL_law_466 : decode cL_law 466 = .ok (.istore 5, 2) := by decide +kernel
theorem dL_law_468 : decode cL_law 468 = .ok (.aload_n 2, 1) := by decide +kernel
theorem dL_law_469 : decode cL_law 469 = .ok (.invokevirtual 96, 3) := by decide +kernel
theorem dL_law_472 : decode cL_law 472 = .ok (.istore 6, 2) := by decide +kernel
theorem dL_law_474 : decode cL_law 474 = .ok (.aload_n 2, 1) := by decide +kernel
theorem dL_law_475 : decode cL_law 475 = .ok (.invokevirtual 82, 3) := by decide +kernel
theorem dL_law_478 : decode cL_law 478 = .ok (.iload 5, 2) := by decide +kernel
theorem dL_law_480 : decode cL_law 480 = .ok (.if_icmp .eq 5, 3) := by decide +kernel
theorem dL_law_483 : decode cL_law 483 = .ok (.iconst 0, 1) := by decide +kernel
theorem dL_law_484 : decode cL_law 484 = .ok (.ireturn, 1) := by decide +kernel
theorem dL_law_485 : decode cL_law 485 = .ok (.iload 5, 2) := by decide +kernel
theorem dL_law_487 : decode cL_law 487 = .ok (.ifCond .ne 15, 3) := by decide +kernel
theorem dL_law_490 : decode cL_law 490 = .ok (.aload_n 3, 1) := by decide +kernel
theorem dL_law_491 : decode cL_law 491 = .ok (.iconst 0, 1) := by decide +kernel
theorem dL_law_492 : decode cL_law 492 = .ok (.laload, 1) := by decide +kernel
theorem dL_law_493 : decode cL_law 493 = .ok (.iload 6, 2) := by decide +kernel
theorem dL_law_495 : decode cL_law 495 = .ok (.i2l, 1) := by decide +kernel
theorem dL_law_496 : decode cL_law 496 = .ok (.lcmp, 1) := by decide +kernel
theorem dL_law_497 : decode cL_law 497 = .ok (.ifCond .eq 5, 3) := by decide +kernel
theorem dL_law_500 : decode cL_law 500 = .ok (.iconst 0, 1) := by decide +kernel
theorem dL_law_501 : decode cL_law 501 = .ok (.ireturn, 1) := by decide +kernel
theorem dL_law_502 : decode cL_law 502 = .ok (.goto 694, 3) := by decide +kernel
theorem dL_law_505 : decode cL_law 505 = .ok (.aload_n 1, 1) := by decide +kernel
theorem dL_law_506 : decode cL_law 506 = .ok (.aload_n 0, 1) := by decide +kernel
theorem dL_law_507 : decode cL_law 507 = .ok (.iload 4, 2) := by decide +kernel
theorem dL_law_509 : decode cL_law 509 = .ok (.iconst 1, 1) := by decide +kernel
theorem dL_law_510 : decode cL_law 510 = .ok (.iadd, 1) := by decide +kernel
theorem dL_law_511 : decode cL_law 511 = .ok (.iaload, 1) := by decide +kernel
theorem dL_law_512 : decode cL_law 512 = .ok (.aload_n 0, 1) := by decide +kernel
theorem dL_law_513 : decode cL_law 513 = .ok (.iload 4, 2) := by decide +kernel
theorem dL_law_515 : decode cL_law 515 = .ok (.iconst 2, 1) := by decide +kernel
theorem dL_law_516 : decode cL_law 516 = .ok (.iadd, 1) := by decide +kernel
theorem dL_law_517 : decode cL_law 517 = .ok (.iaload, 1) := by decide +kernel
theorem dL_law_518 : decode cL_law 518 = .ok (.aload_n 3, 1) := by decide +kernel
theorem dL_law_519 : decode cL_law 519 = .ok (.invokestatic 97, 3) := by decide +kernel
theorem dL_law_522 : decode cL_law 522 = .ok (.istore 5, 2) := by decide +kernel
theorem dL_law_524 : decode cL_law 524 = .ok (.aload_n 2, 1) := by decide +kernel
theorem dL_law_525 : decode cL_law 525 = .ok (.aload_n 0, 1) := by decide +kernel
theorem dL_law_526 : decode cL_law 526 = .ok (.iload 4, 2) := by decide +kernel
theorem dL_law_528 : decode cL_law 528 = .ok (.iconst 1, 1) := by decide +kernel
theorem dL_law_529 : decode cL_law 529 = .ok (.iadd, 1) := by decide +kernel
theorem dL_law_530 : decode cL_law 530 = .ok (.iaload, 1) := by decide +kernel
theorem dL_law_531 : decode cL_law 531 = .ok (.aload_n 0, 1) := by decide +kernel
theorem dL_law_532 : decode cL_law 532 = .ok (.iload 4, 2) := by decide +kernel
theorem dL_law_534 : decode cL_law 534 = .ok (.iconst 2, 1) := by decide +kernel
theorem dL_law_535 : decode cL_law 535 = .ok (.iadd, 1) := by decide +kernel
theorem dL_law_536 : decode cL_law 536 = .ok (.iaload, 1) := by decide +kernel
theorem dL_law_537 : decode cL_law 537 = .ok (.invokevirtual 100, 3) := by decide +kernel
theorem dL_law_540 : decode cL_law 540 = .ok (.istore 6, 2) := by decide +kernel
theorem dL_law_542 : decode cL_law 542 = .ok (.aload_n 2, 1) := by decide +kernel
theorem dL_law_543 : decode cL_law 543 = .ok (.invokevirtual 82, 3) := by decide +kernel
theorem dL_law_546 : decode cL_law 546 = .ok (.iload 5, 2) := by decide +kernel
theorem dL_law_548 : decode cL_law 548 = .ok (.if_icmp .eq 5, 3) := by decide +kernel
theorem dL_law_551 : decode cL_law 551 = .ok (.iconst 0, 1) := by decide +kernel
theorem dL_law_552 : decode cL_law 552 = .ok (.ireturn, 1) := by decide +kernel
theorem dL_law_553 : decode cL_law 553 = .ok (.iload 5, 2) := by decide +kernel
theorem dL_law_555 : decode cL_law 555 = .ok (.ifCond .ne 15, 3) := by decide +kernel
theorem dL_law_558 : decode cL_law 558 = .ok (.aload_n 3, 1) := by decide +kernel
theorem dL_law_559 : decode cL_law 559 = .ok (.iconst 0, 1) := by decide +kernel
theorem dL_law_560 : decode cL_law 560 = .ok (.laload, 1) := by decide +kernel
theorem dL_law_561 : decode cL_law 561 = .ok (.iload 6, 2) := by decide +kernel
theorem dL_law_563 : decode cL_law 563 = .ok (.i2l, 1) := by decide +kernel
theorem dL_law_564 : decode cL_law 564 = .ok (.lcmp, 1) := by decide +kernel
theorem dL_law_565 : decode cL_law 565 = .ok (.ifCond .eq 5, 3) := by decide +kernel
theorem dL_law_568 : decode cL_law 568 = .ok (.iconst 0, 1) := by decide +kernel
theorem dL_law_569 : decode cL_law 569 = .ok (.ireturn, 1) := by decide +kernel
theorem dL_law_570 : decode cL_law 570 = .ok (.goto 626, 3) := by decide +kernel
theorem dL_law_573 : decode cL_law 573 = .ok (.aload_n 1, 1) := by decide +kernel
theorem dL_law_574 : decode cL_law 574 = .ok (.aload_n 3, 1) := by decide +kernel
theorem dL_law_575 : decode cL_law 575 = .ok (.invokestatic 101, 3) := by decide +kernel
theorem dL_law_578 : decode cL_law 578 = .ok (.istore 5, 2) := by decide +kernel
theorem dL_law_580 : decode cL_law 580 = .ok (.aload_n 2, 1) := by decide +kernel
theorem dL_law_581 : decode cL_law 581 = .ok (.invokevirtual 103, 3) := by decide +kernel
theorem dL_law_584 : decode cL_law 584 = .ok (.istore 6, 2) := by decide +kernel
theorem dL_law_586 : decode cL_law 586 = .ok (.aload_n 2, 1) := by decide +kernel
theorem dL_law_587 : decode cL_law 587 = .ok (.invokevirtual 82, 3) := by decide +kernel
theorem dL_law_590 : decode cL_law 590 = .ok (.iload 5, 2) := by decide +kernel
theorem dL_law_592 : decode cL_law 592 = .ok (.if_icmp .eq 5, 3) := by decide +kernel
theorem dL_law_595 : decode cL_law 595 = .ok (.iconst 0, 1) := by decide +kernel
theorem dL_law_596 : decode cL_law 596 = .ok (.ireturn, 1) := by decide +kernel
theorem dL_law_597 : decode cL_law 597 = .ok (.iload 5, 2) := by decide +kernel
theorem dL_law_599 : decode cL_law 599 = .ok (.ifCond .ne 22, 3) := by decide +kernel
theorem dL_law_602 : decode cL_law 602 = .ok (.aload_n 3, 1) := by decide +kernel
theorem dL_law_603 : decode cL_law 603 = .ok (.iconst 0, 1) := by decide +kernel
theorem dL_law_604 : decode cL_law 604 = .ok (.laload, 1) := by decide +kernel
theorem dL_law_605 : decode cL_law 605 = .ok (.iload 6, 2) := by decide +kernel
theorem dL_law_607 : decode cL_law 607 = .ok (.ifCond .eq 7, 3) := by decide +kernel
theorem dL_law_610 : decode cL_law 610 = .ok (.lconst 1, 1) := by decide +kernel
theorem dL_law_611 : decode cL_law 611 = .ok (.goto 4, 3) := by decide +kernel
theorem dL_law_614 : decode cL_law 614 = .ok (.lconst 0, 1) := by decide +kernel
theorem dL_law_615 : decode cL_law 615 = .ok (.lcmp, 1) := by decide +kernel
theorem dL_law_616 : decode cL_law 616 = .ok (.ifCond .eq 5, 3) := by decide +kernel
theorem dL_law_619 : decode cL_law 619 = .ok (.iconst 0, 1) := by decide +kernel
theorem dL_law_620 : decode cL_law 620 = .ok (.ireturn, 1) := by decide +kernel
theorem dL_law_621 : decode cL_law 621 = .ok (.goto 575, 3) := by decide +kernel
theorem dL_law_624 : decode cL_law 624 = .ok (.aload_n 1, 1) := by decide +kernel
theorem dL_law_625 : decode cL_law 625 = .ok (.aload_n 3, 1) := by decide +kernel
theorem dL_law_626 : decode cL_law 626 = .ok (.invokestatic 104, 3) := by decide +kernel
theorem dL_law_629 : decode cL_law 629 = .ok (.istore 5, 2) := by decide +kernel
theorem dL_law_631 : decode cL_law 631 = .ok (.aload_n 2, 1) := by decide +kernel
theorem dL_law_632 : decode cL_law 632 = .ok (.invokevirtual 106, 3) := by decide +kernel
theorem dL_law_635 : decode cL_law 635 = .ok (.istore 6, 2) := by decide +kernel
theorem dL_law_637 : decode cL_law 637 = .ok (.aload_n 2, 1) := by decide +kernel
theorem dL_law_638 : decode cL_law 638 = .ok (.invokevirtual 82, 3) := by decide +kernel
theorem dL_law_641 : decode cL_law 641 = .ok (.iload 5, 2) := by decide +kernel
theorem dL_law_643 : decode cL_law 643 = .ok (.if_icmp .eq 5, 3) := by decide +kernel
theorem dL_law_646 : decode cL_law 646 = .ok (.iconst 0, 1) := by decide +kernel
theorem dL_law_647 : decode cL_law 647 = .ok (.ireturn, 1) := by decide +kernel
theorem dL_law_648 : decode cL_law 648 = .ok (.iload 5, 2) := by decide +kernel
theorem dL_law_650 : decode cL_law 650 = .ok (.ifCond .ne 15, 3) := by decide +kernel
theorem dL_law_653 : decode cL_law 653 = .ok (.aload_n 3, 1) := by decide +kernel
theorem dL_law_654 : decode cL_law 654 = .ok (.iconst 0, 1) := by decide +kernel
theorem dL_law_655 : decode cL_law 655 = .ok (.laload, 1) := by decide +kernel
theorem dL_law_656 : decode cL_law 656 = .ok (.iload 6, 2) := by decide +kernel
theorem dL_law_658 : decode cL_law 658 = .ok (.i2l, 1) := by decide +kernel
theorem dL_law_659 : decode cL_law 659 = .ok (.lcmp, 1) := by decide +kernel
theorem dL_law_660 : decode cL_law 660 = .ok (.ifCond .eq 5, 3) := by decide +kernel
theorem dL_law_663 : decode cL_law 663 = .ok (.iconst 0, 1) := by decide +kernel
theorem dL_law_664 : decode cL_law 664 = .ok (.ireturn, 1) := by decide +kernel
theorem dL_law_665 : decode cL_law 665 = .ok (.goto 531, 3) := by decide +kernel
theorem dL_law_668 : decode cL_law 668 = .ok (.aload_n 1, 1) := by decide +kernel
theorem dL_law_669 : decode cL_law 669 = .ok (.aload_n 0, 1) := by decide +kernel
theorem dL_law_670 : decode cL_law 670 = .ok (.iload 4, 2) := by decide +kernel
theorem dL_law_672 : decode cL_law 672 = .ok (.iconst 1, 1) := by decide +kernel
theorem dL_law_673 : decode cL_law 673 = .ok (.iadd, 1) := by decide +kernel
theorem dL_law_674 : decode cL_law 674 = .ok (.iaload, 1) := by decide +kernel
theorem dL_law_675 : decode cL_law 675 = .ok (.aload_n 3, 1) := by decide +kernel
theorem dL_law_676 : decode cL_law 676 = .ok (.invokestatic 107, 3) := by decide +kernel
theorem dL_law_679 : decode cL_law 679 = .ok (.istore 5, 2) := by decide +kernel
theorem dL_law_681 : decode cL_law 681 = .ok (.aload_n 2, 1) := by decide +kernel
theorem dL_law_682 : decode cL_law 682 = .ok (.aload_n 0, 1) := by decide +kernel
theorem dL_law_683 : decode cL_law 683 = .ok (.iload 4, 2) := by decide +kernel
theorem dL_law_685 : decode cL_law 685 = .ok (.iconst 1, 1) := by decide +kernel
theorem dL_law_686 : decode cL_law 686 = .ok (.iadd, 1) := by decide +kernel
theorem dL_law_687 : decode cL_law 687 = .ok (.iaload, 1) := by decide +kernel
theorem dL_law_688 : decode cL_law 688 = .ok (.invokevirtual 110, 3) := by decide +kernel
theorem dL_law_691 : decode cL_law 691 = .ok (.istore 6, 2) := by decide +kernel
theorem dL_law_693 : decode cL_law 693 = .ok (.aload_n 2, 1) := by decide +kernel
theorem dL_law_694 : decode cL_law 694 = .ok (.invokevirtual 82, 3) := by decide +kernel
theorem dL_law_697 : decode cL_law 697 = .ok (.iload 5, 2) := by decide +kernel
theorem dL_law_699 : decode cL_law 699 = .ok (.if_icmp .eq 5, 3) := by decide +kernel
theorem dL_law_702 : decode cL_law 702 = .ok (.iconst 0, 1) := by decide +kernel
theorem dL_law_703 : decode cL_law 703 = .ok (.ireturn, 1) := by decide +kernel
theorem dL_law_704 : decode cL_law 704 = .ok (.iload 5, 2) := by decide +kernel
theorem dL_law_706 : decode cL_law 706 = .ok (.ifCond .ne 15, 3) := by decide +kernel
theorem dL_law_709 : decode cL_law 709 = .ok (.aload_n 3, 1) := by decide +kernel
theorem dL_law_710 : decode cL_law 710 = .ok (.iconst 0, 1) := by decide +kernel
theorem dL_law_711 : decode cL_law 711 = .ok (.laload, 1) := by decide +kernel
theorem dL_law_712 : decode cL_law 712 = .ok (.iload 6, 2) := by decide +kernel
theorem dL_law_714 : decode cL_law 714 = .ok (.i2l, 1) := by decide +kernel
theorem dL_law_715 : decode cL_law 715 = .ok (.lcmp, 1) := by decide +kernel
theorem dL_law_716 : decode cL_law 716 = .ok (.ifCond .eq 5, 3) := by decide +kernel
theorem dL_law_719 : decode cL_law 719 = .ok (.iconst 0, 1) := by decide +kernel
theorem dL_law_720 : decode cL_law 720 = .ok (.ireturn, 1) := by decide +kernel
theorem dL_law_721 : decode cL_law 721 = .ok (.goto 475, 3) := by decide +kernel
theorem dL_law_724 : decode cL_law 724 = .ok (.aload_n 1, 1) := by decide +kernel
theorem dL_law_725 : decode cL_law 725 = .ok (.aload_n 0, 1) := by decide +kernel
theorem dL_law_726 : decode cL_law 726 = .ok (.iload 4, 2) := by decide +kernel
theorem dL_law_728 : decode cL_law 728 = .ok (.iconst 1, 1) := by decide +kernel
theorem dL_law_729 : decode cL_law 729 = .ok (.iadd, 1) := by decide +kernel
theorem dL_law_730 : decode cL_law 730 = .ok (.iaload, 1) := by decide +kernel
theorem dL_law_731 : decode cL_law 731 = .ok (.aload_n 3, 1) := by decide +kernel
theorem dL_law_732 : decode cL_law 732 = .ok (.invokestatic 111, 3) := by decide +kernel
theorem dL_law_735 : decode cL_law 735 = .ok (.istore 5, 2) := by decide +kernel
theorem dL_law_737 : decode cL_law 737 = .ok (.aload_n 2, 1) := by decide +kernel
theorem dL_law_738 : decode cL_law 738 = .ok (.aload_n 0, 1) := by decide +kernel
theorem dL_law_739 : decode cL_law 739 = .ok (.iload 4, 2) := by decide +kernel
theorem dL_law_741 : decode cL_law 741 = .ok (.iconst 1, 1) := by decide +kernel
theorem dL_law_742 : decode cL_law 742 = .ok (.iadd, 1) := by decide +kernel
theorem dL_law_743 : decode cL_law 743 = .ok (.iaload, 1) := by decide +kernel
theorem dL_law_744 : decode cL_law 744 = .ok (.invokevirtual 113, 3) := by decide +kernel
theorem dL_law_747 : decode cL_law 747 = .ok (.istore 6, 2) := by decide +kernel
theorem dL_law_749 : decode cL_law 749 = .ok (.aload_n 2, 1) := by decide +kernel
theorem dL_law_750 : decode cL_law 750 = .ok (.invokevirtual 82, 3) := by decide +kernel
theorem dL_law_753 : decode cL_law 753 = .ok (.iload 5, 2) := by decide +kernel
theorem dL_law_755 : decode cL_law 755 = .ok (.if_icmp .eq 5, 3) := by decide +kernel
theorem dL_law_758 : decode cL_law 758 = .ok (.iconst 0, 1) := by decide +kernel
theorem dL_law_759 : decode cL_law 759 = .ok (.ireturn, 1) := by decide +kernel
theorem dL_law_760 : decode cL_law 760 = .ok (.iload 5, 2) := by decide +kernel
theorem dL_law_762 : decode cL_law 762 = .ok (.ifCond .ne 15, 3) := by decide +kernel
theorem dL_law_765 : decode cL_law 765 = .ok (.aload_n 3, 1) := by decide +kernel
theorem dL_law_766 : decode cL_law 766 = .ok (.iconst 0, 1) := by decide +kernel
theorem dL_law_767 : decode cL_law 767 = .ok (.laload, 1) := by decide +kernel
theorem dL_law_768 : decode cL_law 768 = .ok (.iload 6, 2) := by decide +kernel
theorem dL_law_770 : decode cL_law 770 = .ok (.i2l, 1) := by decide +kernel
theorem dL_law_771 : decode cL_law 771 = .ok (.lcmp, 1) := by decide +kernel
theorem dL_law_772 : decode cL_law 772 = .ok (.ifCond .eq 5, 3) := by decide +kernel
theorem dL_law_775 : decode cL_law 775 = .ok (.iconst 0, 1) := by decide +kernel
theorem dL_law_776 : decode cL_law 776 = .ok (.ireturn, 1) := by decide +kernel
theorem dL_law_777 : decode cL_law 777 = .ok (.goto 419, 3) := by decide +kernel
theorem dL_law_780 : decode cL_law 780 = .ok (.aload_n 1, 1) := by decide +kernel
theorem dL_law_781 : decode cL_law 781 = .ok (.aload_n 0, 1) := by decide +kernel
theorem dL_law_782 : decode cL_law 782 = .ok (.iload 4, 2) := by decide +kernel
theorem dL_law_784 : decode cL_law 784 = .ok (.iconst 1, 1) := by decide +kernel
theorem dL_law_785 : decode cL_law 785 = .ok (.iadd, 1) := by decide +kernel
theorem dL_law_786 : decode cL_law 786 = .ok (.iaload, 1) := by decide +kernel
theorem dL_law_787 : decode cL_law 787 = .ok (.aload_n 0, 1) := by decide +kernel
theorem dL_law_788 : decode cL_law 788 = .ok (.iload 4, 2) := by decide +kernel
theorem dL_law_790 : decode cL_law 790 = .ok (.iconst 2, 1) := by decide +kernel
theorem dL_law_791 : decode cL_law 791 = .ok (.iadd, 1) := by decide +kernel
theorem dL_law_792 : decode cL_law 792 = .ok (.iaload, 1) := by decide +kernel
theorem dL_law_793 : decode cL_law 793 = .ok (.aload_n 0, 1) := by decide +kernel
theorem dL_law_794 : decode cL_law 794 = .ok (.iload 4, 2) := by decide +kernel
theorem dL_law_796 : decode cL_law 796 = .ok (.iconst 3, 1) := by decide +kernel
theorem dL_law_797 : decode cL_law 797 = .ok (.iadd, 1) := by decide +kernel
theorem dL_law_798 : decode cL_law 798 = .ok (.iaload, 1) := by decide +kernel
theorem dL_law_799 : decode cL_law 799 = .ok (.aload_n 3, 1) := by decide +kernel
theorem dL_law_800 : decode cL_law 800 = .ok (.invokestatic 114, 3) := by decide +kernel
theorem dL_law_803 : decode cL_law 803 = .ok (.istore 5, 2) := by decide +kernel
theorem dL_law_805 : decode cL_law 805 = .ok (.aload_n 2, 1) := by decide +kernel
theorem dL_law_806 : decode cL_law 806 = .ok (.aload_n 0, 1) := by decide +kernel
theorem dL_law_807 : decode cL_law 807 = .ok (.iload 4, 2) := by decide +kernel
theorem dL_law_809 : decode cL_law 809 = .ok (.iconst 1, 1) := by decide +kernel
theorem dL_law_810 : decode cL_law 810 = .ok (.iadd, 1) := by decide +kernel
theorem dL_law_811 : decode cL_law 811 = .ok (.iaload, 1) := by decide +kernel
theorem dL_law_812 : decode cL_law 812 = .ok (.aload_n 0, 1) := by decide +kernel
theorem dL_law_813 : decode cL_law 813 = .ok (.iload 4, 2) := by decide +kernel
theorem dL_law_815 : decode cL_law 815 = .ok (.iconst 2, 1) := by decide +kernel
theorem dL_law_816 : decode cL_law 816 = .ok (.iadd, 1) := by decide +kernel
theorem dL_law_817 : decode cL_law 817 = .ok (.iaload, 1) := by decide +kernel
theorem dL_law_818 : decode cL_law 818 = .ok (.aload_n 0, 1) := by decide +kernel
theorem dL_law_819 : decode cL_law 819 = .ok (.iload 4, 2) := by decide +kernel
theorem dL_law_821 : decode cL_law 821 = .ok (.iconst 3, 1) := by decide +kernel
theorem dL_law_822 : decode cL_law 822 = .ok (.iadd, 1) := by decide +kernel
theorem dL_law_823 : decode cL_law 823 = .ok (.iaload, 1) := by decide +kernel
theorem dL_law_824 : decode cL_law 824 = .ok (.invokevirtual 117, 3) := by decide +kernel
theorem dL_law_827 : decode cL_law 827 = .ok (.istore 6, 2) := by decide +kernel
theorem dL_law_829 : decode cL_law 829 = .ok (.aload_n 2, 1) := by decide +kernel
theorem dL_law_830 : decode cL_law 830 = .ok (.invokevirtual 82, 3) := by decide +kernel
theorem dL_law_833 : decode cL_law 833 = .ok (.iload 5, 2) := by decide +kernel
theorem dL_law_835 : decode cL_law 835 = .ok (.if_icmp .eq 5, 3) := by decide +kernel
theorem dL_law_838 : decode cL_law 838 = .ok (.iconst 0, 1) := by decide +kernel
theorem dL_law_839 : decode cL_law 839 = .ok (.ireturn, 1) := by decide +kernel
theorem dL_law_840 : decode cL_law 840 = .ok (.iload 5, 2) := by decide +kernel
theorem dL_law_842 : decode cL_law 842 = .ok (.ifCond .ne 15, 3) := by decide +kernel
theorem dL_law_845 : decode cL_law 845 = .ok (.aload_n 3, 1) := by decide +kernel
theorem dL_law_846 : decode cL_law 846 = .ok (.iconst 0, 1) := by decide +kernel
theorem dL_law_847 : decode cL_law 847 = .ok (.laload, 1) := by decide +kernel
theorem dL_law_848 : decode cL_law 848 = .ok (.iload 6, 2) := by decide +kernel
theorem dL_law_850 : decode cL_law 850 = .ok (.i2l, 1) := by decide +kernel
theorem dL_law_851 : decode cL_law 851 = .ok (.lcmp, 1) := by decide +kernel
theorem dL_law_852 : decode cL_law 852 = .ok (.ifCond .eq 5, 3) := by decide +kernel
theorem dL_law_855 : decode cL_law 855 = .ok (.iconst 0, 1) := by decide +kernel
theorem dL_law_856 : decode cL_law 856 = .ok (.ireturn, 1) := by decide +kernel
theorem dL_law_857 : decode cL_law 857 = .ok (.goto 339, 3) := by decide +kernel
theorem dL_law_860 : decode cL_law 860 = .ok (.aload_n 1, 1) := by decide +kernel
theorem dL_law_861 : decode cL_law 861 = .ok (.aload_n 0, 1) := by decide +kernel
theorem dL_law_862 : decode cL_law 862 = .ok (.iload 4, 2) := by decide +kernel
theorem dL_law_864 : decode cL_law 864 = .ok (.iconst 1, 1) := by decide +kernel
theorem dL_law_865 : decode cL_law 865 = .ok (.iadd, 1) := by decide +kernel
theorem dL_law_866 : decode cL_law 866 = .ok (.iaload, 1) := by decide +kernel
theorem dL_law_867 : decode cL_law 867 = .ok (.i2l, 1) := by decide +kernel
theorem dL_law_868 : decode cL_law 868 = .ok (.bipush 32, 2) := by decide +kernel
theorem dL_law_870 : decode cL_law 870 = .ok (.lshl, 1) := by decide +kernel
theorem dL_law_871 : decode cL_law 871 = .ok (.aload_n 0, 1) := by decide +kernel
theorem dL_law_872 : decode cL_law 872 = .ok (.iload 4, 2) := by decide +kernel
theorem dL_law_874 : decode cL_law 874 = .ok (.iconst 2, 1) := by decide +kernel
theorem dL_law_875 : decode cL_law 875 = .ok (.iadd, 1) := by decide +kernel
theorem dL_law_876 : decode cL_law 876 = .ok (.iaload, 1) := by decide +kernel
theorem dL_law_877 : decode cL_law 877 = .ok (.i2l, 1) := by decide +kernel
theorem dL_law_878 : decode cL_law 878 = .ok (.ldc2_w 76, 3) := by decide +kernel
theorem dL_law_881 : decode cL_law 881 = .ok (.land, 1) := by decide +kernel
theorem dL_law_882 : decode cL_law 882 = .ok (.lor, 1) := by decide +kernel
theorem dL_law_883 : decode cL_law 883 = .ok (.invokevirtual 118, 3) := by decide +kernel
theorem dL_law_886 : decode cL_law 886 = .ok (.aload_n 2, 1) := by decide +kernel
theorem dL_law_887 : decode cL_law 887 = .ok (.aload_n 0, 1) := by decide +kernel
theorem dL_law_888 : decode cL_law 888 = .ok (.iload 4, 2) := by decide +kernel
theorem dL_law_890 : decode cL_law 890 = .ok (.iconst 1, 1) := by decide +kernel
theorem dL_law_891 : decode cL_law 891 = .ok (.iadd, 1) := by decide +kernel
theorem dL_law_892 : decode cL_law 892 = .ok (.iaload, 1) := by decide +kernel
theorem dL_law_893 : decode cL_law 893 = .ok (.i2l, 1) := by decide +kernel
theorem dL_law_894 : decode cL_law 894 = .ok (.bipush 32, 2) := by decide +kernel
theorem dL_law_896 : decode cL_law 896 = .ok (.lshl, 1) := by decide +kernel
theorem dL_law_897 : decode cL_law 897 = .ok (.aload_n 0, 1) := by decide +kernel
theorem dL_law_898 : decode cL_law 898 = .ok (.iload 4, 2) := by decide +kernel
theorem dL_law_900 : decode cL_law 900 = .ok (.iconst 2, 1) := by decide +kernel
theorem dL_law_901 : decode cL_law 901 = .ok (.iadd, 1) := by decide +kernel
theorem dL_law_902 : decode cL_law 902 = .ok (.iaload, 1) := by decide +kernel
theorem dL_law_903 : decode cL_law 903 = .ok (.i2l, 1) := by decide +kernel
theorem dL_law_904 : decode cL_law 904 = .ok (.ldc2_w 76, 3) := by decide +kernel
theorem dL_law_907 : decode cL_law 907 = .ok (.land, 1) := by decide +kernel
theorem dL_law_908 : decode cL_law 908 = .ok (.lor, 1) := by decide +kernel
theorem dL_law_909 : decode cL_law 909 = .ok (.invokevirtual 122, 3) := by decide +kernel
theorem dL_law_912 : decode cL_law 912 = .ok (.if_icmp .eq 284, 3) := by decide +kernel
theorem dL_law_915 : decode cL_law 915 = .ok (.iconst 0, 1) := by decide +kernel
theorem dL_law_916 : decode cL_law 916 = .ok (.ireturn, 1) := by decide +kernel
theorem dL_law_917 : decode cL_law 917 = .ok (.aload_n 1, 1) := by decide +kernel
theorem dL_law_918 : decode cL_law 918 = .ok (.aload_n 0, 1) := by decide +kernel
theorem dL_law_919 : decode cL_law 919 = .ok (.iload 4, 2) := by decide +kernel
theorem dL_law_921 : decode cL_law 921 = .ok (.iconst 1, 1) := by decide +kernel
theorem dL_law_922 : decode cL_law 922 = .ok (.iadd, 1) := by decide +kernel
theorem dL_law_923 : decode cL_law 923 = .ok (.iaload, 1) := by decide +kernel
theorem dL_law_924 : decode cL_law 924 = .ok (.aload_n 3, 1) := by decide +kernel
theorem dL_law_925 : decode cL_law 925 = .ok (.invokestatic 123, 3) := by decide +kernel
theorem dL_law_928 : decode cL_law 928 = .ok (.istore 5, 2) := by decide +kernel
theorem dL_law_930 : decode cL_law 930 = .ok (.aload_n 2, 1) := by decide +kernel
theorem dL_law_931 : decode cL_law 931 = .ok (.aload_n 0, 1) := by decide +kernel
theorem dL_law_932 : decode cL_law 932 = .ok (.iload 4, 2) := by decide +kernel
theorem dL_law_934 : decode cL_law 934 = .ok (.iconst 1, 1) := by decide +kernel
theorem dL_law_935 : decode cL_law 935 = .ok (.iadd, 1) := by decide +kernel
theorem dL_law_936 : decode cL_law 936 = .ok (.iaload, 1) := by decide +kernel
theorem dL_law_937 : decode cL_law 937 = .ok (.invokevirtual 125, 3) := by decide +kernel
theorem dL_law_940 : decode cL_law 940 = .ok (.istore 6, 2) := by decide +kernel
theorem dL_law_942 : decode cL_law 942 = .ok (.aload_n 2, 1) := by decide +kernel
theorem dL_law_943 : decode cL_law 943 = .ok (.invokevirtual 82, 3) := by decide +kernel
theorem dL_law_946 : decode cL_law 946 = .ok (.iload 5, 2) := by decide +kernel
theorem dL_law_948 : decode cL_law 948 = .ok (.if_icmp .eq 5, 3) := by decide +kernel
theorem dL_law_951 : decode cL_law 951 = .ok (.iconst 0, 1) := by decide +kernel
theorem dL_law_952 : decode cL_law 952 = .ok (.ireturn, 1) := by decide +kernel
theorem dL_law_953 : decode cL_law 953 = .ok (.iload 5, 2) := by decide +kernel
theorem dL_law_955 : decode cL_law 955 = .ok (.ifCond .ne 15, 3) := by decide +kernel
theorem dL_law_958 : decode cL_law 958 = .ok (.aload_n 3, 1) := by decide +kernel
theorem dL_law_959 : decode cL_law 959 = .ok (.iconst 0, 1) := by decide +kernel
theorem dL_law_960 : decode cL_law 960 = .ok (.laload, 1) := by decide +kernel
theorem dL_law_961 : decode cL_law 961 = .ok (.iload 6, 2) := by decide +kernel
theorem dL_law_963 : decode cL_law 963 = .ok (.i2l, 1) := by decide +kernel
theorem dL_law_964 : decode cL_law 964 = .ok (.lcmp, 1) := by decide +kernel
theorem dL_law_965 : decode cL_law 965 = .ok (.ifCond .eq 5, 3) := by decide +kernel
theorem dL_law_968 : decode cL_law 968 = .ok (.iconst 0, 1) := by decide +kernel
theorem dL_law_969 : decode cL_law 969 = .ok (.ireturn, 1) := by decide +kernel
theorem dL_law_970 : decode cL_law 970 = .ok (.goto 226, 3) := by decide +kernel
theorem dL_law_973 : decode cL_law 973 = .ok (.aload_n 1, 1) := by decide +kernel
theorem dL_law_974 : decode cL_law 974 = .ok (.aload_n 0, 1) := by decide +kernel
theorem dL_law_975 : decode cL_law 975 = .ok (.iload 4, 2) := by decide +kernel
theorem dL_law_977 : decode cL_law 977 = .ok (.iconst 1, 1) := by decide +kernel
theorem dL_law_978 : decode cL_law 978 = .ok (.iadd, 1) := by decide +kernel
theorem dL_law_979 : decode cL_law 979 = .ok (.iaload, 1) := by decide +kernel
theorem dL_law_980 : decode cL_law 980 = .ok (.invokevirtual 126, 3) := by decide +kernel
theorem dL_law_983 : decode cL_law 983 = .ok (.aload_n 2, 1) := by decide +kernel
theorem dL_law_984 : decode cL_law 984 = .ok (.aload_n 0, 1) := by decide +kernel
theorem dL_law_985 : decode cL_law 985 = .ok (.iload 4, 2) := by decide +kernel
theorem dL_law_987 : decode cL_law 987 = .ok (.iconst 1, 1) := by decide +kernel
theorem dL_law_988 : decode cL_law 988 = .ok (.iadd, 1) := by decide +kernel
theorem dL_law_989 : decode cL_law 989 = .ok (.iaload, 1) := by decide +kernel
theorem dL_law_990 : decode cL_law 990 = .ok (.invokevirtual 129, 3) := by decide +kernel
theorem dL_law_993 : decode cL_law 993 = .ok (.if_icmp .eq 203, 3) := by decide +kernel
theorem dL_law_996 : decode cL_law 996 = .ok (.iconst 0, 1) := by decide +kernel
theorem dL_law_997 : decode cL_law 997 = .ok (.ireturn, 1) := by decide +kernel
theorem dL_law_998 : decode cL_law 998 = .ok (.aload_n 1, 1) := by decide +kernel
theorem dL_law_999 : decode cL_law 999 = .ok (.aload_n 0, 1) := by decide +kernel
theorem dL_law_1000 : decode cL_law 1000 = .ok (.iload 4, 2) := by decide +kernel
theorem dL_law_1002 : decode cL_law 1002 = .ok (.iconst 1, 1) := by decide +kernel
theorem dL_law_1003 : decode cL_law 1003 = .ok (.iadd, 1) := by decide +kernel
theorem dL_law_1004 : decode cL_law 1004 = .ok (.iaload, 1) := by decide +kernel
theorem dL_law_1005 : decode cL_law 1005 = .ok (.aload_n 3, 1) := by decide +kernel
theorem dL_law_1006 : decode cL_law 1006 = .ok (.invokestatic 130, 3) := by decide +kernel
theorem dL_law_1009 : decode cL_law 1009 = .ok (.istore 5, 2) := by decide +kernel
theorem dL_law_1011 : decode cL_law 1011 = .ok (.aload_n 2, 1) := by decide +kernel
theorem dL_law_1012 : decode cL_law 1012 = .ok (.aload_n 0, 1) := by decide +kernel
theorem dL_law_1013 : decode cL_law 1013 = .ok (.iload 4, 2) := by decide +kernel
theorem dL_law_1015 : decode cL_law 1015 = .ok (.iconst 1, 1) := by decide +kernel
theorem dL_law_1016 : decode cL_law 1016 = .ok (.iadd, 1) := by decide +kernel
theorem dL_law_1017 : decode cL_law 1017 = .ok (.iaload, 1) := by decide +kernel
theorem dL_law_1018 : decode cL_law 1018 = .ok (.invokevirtual 132, 3) := by decide +kernel
theorem dL_law_1021 : decode cL_law 1021 = .ok (.istore 6, 2) := by decide +kernel
theorem dL_law_1023 : decode cL_law 1023 = .ok (.aload_n 2, 1) := by decide +kernel
theorem dL_law_1024 : decode cL_law 1024 = .ok (.invokevirtual 82, 3) := by decide +kernel
theorem dL_law_1027 : decode cL_law 1027 = .ok (.iload 5, 2) := by decide +kernel
theorem dL_law_1029 : decode cL_law 1029 = .ok (.if_icmp .eq 5, 3) := by decide +kernel
theorem dL_law_1032 : decode cL_law 1032 = .ok (.iconst 0, 1) := by decide +kernel
theorem dL_law_1033 : decode cL_law 1033 = .ok (.ireturn, 1) := by decide +kernel
theorem dL_law_1034 : decode cL_law 1034 = .ok (.iload 5, 2) := by decide +kernel
theorem dL_law_1036 : decode cL_law 1036 = .ok (.ifCond .ne 15, 3) := by decide +kernel
theorem dL_law_1039 : decode cL_law 1039 = .ok (.aload_n 3, 1) := by decide +kernel
theorem dL_law_1040 : decode cL_law 1040 = .ok (.iconst 0, 1) := by decide +kernel
theorem dL_law_1041 : decode cL_law 1041 = .ok (.laload, 1) := by decide +kernel
theorem dL_law_1042 : decode cL_law 1042 = .ok (.iload 6, 2) := by decide +kernel
theorem dL_law_1044 : decode cL_law 1044 = .ok (.i2l, 1) := by decide +kernel
theorem dL_law_1045 : decode cL_law 1045 = .ok (.lcmp, 1) := by decide +kernel
theorem dL_law_1046 : decode cL_law 1046 = .ok (.ifCond .eq 5, 3) := by decide +kernel
theorem dL_law_1049 : decode cL_law 1049 = .ok (.iconst 0, 1) := by decide +kernel
theorem dL_law_1050 : decode cL_law 1050 = .ok (.ireturn, 1) := by decide +kernel
theorem dL_law_1051 : decode cL_law 1051 = .ok (.goto 145, 3) := by decide +kernel
theorem dL_law_1054 : decode cL_law 1054 = .ok (.aload_n 1, 1) := by decide +kernel
theorem dL_law_1055 : decode cL_law 1055 = .ok (.aload_n 0, 1) := by decide +kernel
theorem dL_law_1056 : decode cL_law 1056 = .ok (.iload 4, 2) := by decide +kernel
theorem dL_law_1058 : decode cL_law 1058 = .ok (.iconst 1, 1) := by decide +kernel
theorem dL_law_1059 : decode cL_law 1059 = .ok (.iadd, 1) := by decide +kernel
theorem dL_law_1060 : decode cL_law 1060 = .ok (.iaload, 1) := by decide +kernel
theorem dL_law_1061 : decode cL_law 1061 = .ok (.aload_n 3, 1) := by decide +kernel
theorem dL_law_1062 : decode cL_law 1062 = .ok (.invokestatic 133, 3) := by decide +kernel
theorem dL_law_1065 : decode cL_law 1065 = .ok (.istore 5, 2) := by decide +kernel
theorem dL_law_1067 : decode cL_law 1067 = .ok (.aload_n 2, 1) := by decide +kernel
theorem dL_law_1068 : decode cL_law 1068 = .ok (.aload_n 0, 1) := by decide +kernel
theorem dL_law_1069 : decode cL_law 1069 = .ok (.iload 4, 2) := by decide +kernel
theorem dL_law_1071 : decode cL_law 1071 = .ok (.iconst 1, 1) := by decide +kernel
theorem dL_law_1072 : decode cL_law 1072 = .ok (.iadd, 1) := by decide +kernel
theorem dL_law_1073 : decode cL_law 1073 = .ok (.iaload, 1) := by decide +kernel
theorem dL_law_1074 : decode cL_law 1074 = .ok (.invokevirtual 135, 3) := by decide +kernel
theorem dL_law_1077 : decode cL_law 1077 = .ok (.istore 6, 2) := by decide +kernel
theorem dL_law_1079 : decode cL_law 1079 = .ok (.aload_n 2, 1) := by decide +kernel
theorem dL_law_1080 : decode cL_law 1080 = .ok (.invokevirtual 82, 3) := by decide +kernel
theorem dL_law_1083 : decode cL_law 1083 = .ok (.iload 5, 2) := by decide +kernel
theorem dL_law_1085 : decode cL_law 1085 = .ok (.if_icmp .eq 5, 3) := by decide +kernel
theorem dL_law_1088 : decode cL_law 1088 = .ok (.iconst 0, 1) := by decide +kernel
theorem dL_law_1089 : decode cL_law 1089 = .ok (.ireturn, 1) := by decide +kernel
theorem dL_law_1090 : decode cL_law 1090 = .ok (.iload 5, 2) := by decide +kernel
theorem dL_law_1092 : decode cL_law 1092 = .ok (.ifCond .ne 15, 3) := by decide +kernel
theorem dL_law_1095 : decode cL_law 1095 = .ok (.aload_n 3, 1) := by decide +kernel
theorem dL_law_1096 : decode cL_law 1096 = .ok (.iconst 0, 1) := by decide +kernel
theorem dL_law_1097 : decode cL_law 1097 = .ok (.laload, 1) := by decide +kernel
theorem dL_law_1098 : decode cL_law 1098 = .ok (.iload 6, 2) := by decide +kernel
theorem dL_law_1100 : decode cL_law 1100 = .ok (.i2l, 1) := by decide +kernel
theorem dL_law_1101 : decode cL_law 1101 = .ok (.lcmp, 1) := by decide +kernel
theorem dL_law_1102 : decode cL_law 1102 = .ok (.ifCond .eq 5, 3) := by decide +kernel
theorem dL_law_1105 : decode cL_law 1105 = .ok (.iconst 0, 1) := by decide +kernel
theorem dL_law_1106 : decode cL_law 1106 = .ok (.ireturn, 1) := by decide +kernel
theorem dL_law_1107 : decode cL_law 1107 = .ok (.goto 89, 3) := by decide +kernel
theorem dL_law_1110 : decode cL_law 1110 = .ok (.aload_n 1, 1) := by decide +kernel
theorem dL_law_1111 : decode cL_law 1111 = .ok (.aload_n 0, 1) := by decide +kernel
theorem dL_law_1112 : decode cL_law 1112 = .ok (.iload 4, 2) := by decide +kernel
theorem dL_law_1114 : decode cL_law 1114 = .ok (.iconst 1, 1) := by decide +kernel
theorem dL_law_1115 : decode cL_law 1115 = .ok (.iadd, 1) := by decide +kernel
theorem dL_law_1116 : decode cL_law 1116 = .ok (.iaload, 1) := by decide +kernel
theorem dL_law_1117 : decode cL_law 1117 = .ok (.aload_n 0, 1) := by decide +kernel
theorem dL_law_1118 : decode cL_law 1118 = .ok (.iload 4, 2) := by decide +kernel
theorem dL_law_1120 : decode cL_law 1120 = .ok (.iconst 2, 1) := by decide +kernel
theorem dL_law_1121 : decode cL_law 1121 = .ok (.iadd, 1) := by decide +kernel
theorem dL_law_1122 : decode cL_law 1122 = .ok (.iaload, 1) := by decide +kernel
theorem dL_law_1123 : decode cL_law 1123 = .ok (.aload_n 3, 1) := by decide +kernel
theorem dL_law_1124 : decode cL_law 1124 = .ok (.invokestatic 136, 3) := by decide +kernel
theorem dL_law_1127 : decode cL_law 1127 = .ok (.istore 5, 2) := by decide +kernel
theorem dL_law_1129 : decode cL_law 1129 = .ok (.aload_n 2, 1) := by decide +kernel
theorem dL_law_1130 : decode cL_law 1130 = .ok (.aload_n 0, 1) := by decide +kernel
theorem dL_law_1131 : decode cL_law 1131 = .ok (.iload 4, 2) := by decide +kernel
theorem dL_law_1133 : decode cL_law 1133 = .ok (.iconst 1, 1) := by decide +kernel
theorem dL_law_1134 : decode cL_law 1134 = .ok (.iadd, 1) := by decide +kernel
theorem dL_law_1135 : decode cL_law 1135 = .ok (.iaload, 1) := by decide +kernel
theorem dL_law_1136 : decode cL_law 1136 = .ok (.aload_n 0, 1) := by decide +kernel
theorem dL_law_1137 : decode cL_law 1137 = .ok (.iload 4, 2) := by decide +kernel
theorem dL_law_1139 : decode cL_law 1139 = .ok (.iconst 2, 1) := by decide +kernel
theorem dL_law_1140 : decode cL_law 1140 = .ok (.iadd, 1) := by decide +kernel
theorem dL_law_1141 : decode cL_law 1141 = .ok (.iaload, 1) := by decide +kernel
theorem dL_law_1142 : decode cL_law 1142 = .ok (.invokevirtual 138, 3) := by decide +kernel
theorem dL_law_1145 : decode cL_law 1145 = .ok (.istore 6, 2) := by decide +kernel
theorem dL_law_1147 : decode cL_law 1147 = .ok (.aload_n 2, 1) := by decide +kernel
theorem dL_law_1148 : decode cL_law 1148 = .ok (.invokevirtual 82, 3) := by decide +kernel
theorem dL_law_1151 : decode cL_law 1151 = .ok (.iload 5, 2) := by decide +kernel
theorem dL_law_1153 : decode cL_law 1153 = .ok (.if_icmp .eq 5, 3) := by decide +kernel
theorem dL_law_1156 : decode cL_law 1156 = .ok (.iconst 0, 1) := by decide +kernel
theorem dL_law_1157 : decode cL_law 1157 = .ok (.ireturn, 1) := by decide +kernel
theorem dL_law_1158 : decode cL_law 1158 = .ok (.iload 5, 2) := by decide +kernel
theorem dL_law_1160 : decode cL_law 1160 = .ok (.ifCond .ne 22, 3) := by decide +kernel
theorem dL_law_1163 : decode cL_law 1163 = .ok (.aload_n 3, 1) := by decide +kernel
theorem dL_law_1164 : decode cL_law 1164 = .ok (.iconst 0, 1) := by decide +kernel
theorem dL_law_1165 : decode cL_law 1165 = .ok (.laload, 1) := by decide +kernel
theorem dL_law_1166 : decode cL_law 1166 = .ok (.iload 6, 2) := by decide +kernel
theorem dL_law_1168 : decode cL_law 1168 = .ok (.ifCond .eq 7, 3) := by decide +kernel
theorem dL_law_1171 : decode cL_law 1171 = .ok (.lconst 1, 1) := by decide +kernel
theorem dL_law_1172 : decode cL_law 1172 = .ok (.goto 4, 3) := by decide +kernel
theorem dL_law_1175 : decode cL_law 1175 = .ok (.lconst 0, 1) := by decide +kernel
theorem dL_law_1176 : decode cL_law 1176 = .ok (.lcmp, 1) := by decide +kernel
theorem dL_law_1177 : decode cL_law 1177 = .ok (.ifCond .eq 5, 3) := by decide +kernel
theorem dL_law_1180 : decode cL_law 1180 = .ok (.iconst 0, 1) := by decide +kernel
theorem dL_law_1181 : decode cL_law 1181 = .ok (.ireturn, 1) := by decide +kernel
theorem dL_law_1182 : decode cL_law 1182 = .ok (.goto 14, 3) := by decide +kernel
theorem dL_law_1185 : decode cL_law 1185 = .ok (.aload_n 1, 1) := by decide +kernel
theorem dL_law_1186 : decode cL_law 1186 = .ok (.invokevirtual 139, 3) := by decide +kernel
theorem dL_law_1189 : decode cL_law 1189 = .ok (.aload_n 2, 1) := by decide +kernel
theorem dL_law_1190 : decode cL_law 1190 = .ok (.invokevirtual 142, 3) := by decide +kernel
theorem dL_law_1193 : decode cL_law 1193 = .ok (.goto 3, 3) := by decide +kernel
theorem dL_law_1196 : decode cL_law 1196 = .ok (.iinc 4 7, 3) := by decide +kernel
theorem dL_law_1199 : decode cL_law 1199 = .ok (.goto (-1166), 3) := by decide +kernel
theorem dL_law_1202 : decode cL_law 1202 = .ok (.iconst 1, 1) := by decide +kernel
theorem dL_law_1203 : decode cL_law 1203 = .ok (.ireturn, 1) := by decide +kernel
end
section
/-- what the tables say of an array of arrays (a word that the printed rows below use and the kit has not) -/
def va_AOA (ty : FieldType) (U : State) : Prop := (Cond.arrayOver (.array ty)).before #[] U = true
theorem va_AOA.use {ty : FieldType} {A : Array Value} {U : State} (h : va_AOA ty U) : (Cond.arrayOver (.array ty)).before A U = true := h
/-! ===== BEGIN new T[n][m]: the outer array a place, the inner ones among the pooled ===== -/
/-- f, but v at every address of l -/
def vr_up {α : Type} (f : Nat → α) (l : List Nat) (v : α) : Nat → α := fun a => if a ∈ l then v else f a
theorem vr_up_in {α : Type} {f : Nat → α} {l : List Nat} {v : α} {a : Nat} (h : a ∈ l) : vr_up f l v a = v := if_pos h
theorem vr_up_ne {α : Type} {f : Nat → α} {l : List Nat} {v : α} {a : Nat} (h : a ∉ l) : vr_up f l v a = f a := if_neg h
theorem vr_rows {L l : List Nat} {f : Nat → va_E} {e : va_E} (h : ∀ a, a ∈ l → a ∉ L) : va_pl L f ++ l.map (fun a => (a, e)) = va_pl (L ++ l) (vr_up f l e) := by
  unfold va_pl
  rw [List.map_append]
  congr 1
  · apply List.map_congr_left
    intro a ha
    rw [vr_up_ne (fun q => h a q ha)]
  · apply List.map_congr_left
    intro a ha
    rw [vr_up_in ha]
theorem vr_lay {X rows : va_W} {x : Nat × va_E} {pl : va_W} {D : va_G} {cl : List vw_C} {H : Heap} (hP : va_P D cl (((X ++ pl) ++ [x]) ++ rows) H) : va_P D cl ((X ++ [x]) ++ (pl ++ rows)) H := by
  rw [List.append_assoc (X ++ pl)] at hP
  have h := va_P.swap hP
  rw [← List.append_assoc X] at h
  have h2 := va_P.swap h
  rw [List.append_assoc (X ++ [x])] at h2
  exact h2
theorem vr_layD {X rows : va_W} {x : Nat × va_E} {pl : va_W} {A : Nat → Prop} (hD : va_D A (((X ++ pl) ++ [x]) ++ rows)) : va_D A ((X ++ [x]) ++ (pl ++ rows)) := by
  rw [List.append_assoc (X ++ pl)] at hD
  have h := va_D.swap hD
  rw [← List.append_assoc X] at h
  have h2 := va_D.swap h
  rw [List.append_assoc (X ++ [x])] at h2
  exact h2
theorem vr_outer (c : ClassId) (N h0 : Nat) : ∀ i : Nat, Jvm.Free.Multi.outerC c N h0 i = arrV c N (fun j => va_rf (if j < i then some (h0 + 1 + j) else none))
  | 0 => by
    show ({ cls := c, slots := Array.replicate N .null, vm := .none } : Cell) = _
    rw [arrV_new]
    refine congrArg (arrV c N) (funext fun j => ?_)
    simp [va_rf]
  | i + 1 => by
    show (Jvm.Free.Multi.outerC c N h0 i).setSlot i (.ref (h0 + 1 + i)) = _
    rw [vr_outer c N h0 i, arrV_store]
    refine congrArg (arrV c N) (funext fun j => ?_)
    by_cases e : j = i
    · subst e
      simp [updV, va_rf]
    · by_cases h : j < i
      · simp [updV, e, h, Nat.lt_succ_of_lt h]
      · simp [updV, e, h, show ¬ j < i + 1 by omega]
section VGM
variable {p : Program} {l : Launch} {e : Env} {R : Room} {s : State} {m : MethodId} {args : Array Value} {below : List Frame} {meth : Method} {c : Code} {H : Heap} {locs : List Loc} {cells slots : Nat} {Q : State → Prop}
variable {cc : ByteArray} {pc : Nat} {ls : Array Slot} {rest : List Value} {D : va_G} {cl : List vw_C} {A : Nat → Prop} {a : Nat} {tys : List (ClassId × FieldType)} {ws : va_W} {H0 : Heap}
theorem va_mna {X : va_W} {L : List Nat} {f : Nat → va_E} {cc : ByteArray} (hexec : p.tables.exec = Jvm.exec) (hb : c.code = cc) {own : String} {index : Nat} {ty : FieldType} {cy : ClassId} (hown : s.vm.findClass own = some m.cls) (hclink : (Cond.classLink own index ("[" ++ (FieldType.array ty).toString)).before args s = true) (hover : va_AOA ty s) (harr : (Cond.arrayClass ty).before args s = true) (hcy : s.vm.findClass (FieldType.array ty).toString = some cy)
    (hK : va_K D cl tys s) (hP : va_P D cl (X ++ va_pl L f) H) (hD : va_D A (X ++ va_pl L f)) (hS : va_S A H0 H locs) (hA : ∀ q, H0.size ≤ q → A q) {n k : Int32} {N' K' : Nat} {z : vp_A} (hn : ¬ n < 0) (hk : ¬ k < 0) (hN : n.toNatClampNeg = N') (hM : k.toNatClampNeg = K')
    (hb1 : N' * 4 ≤ 536870912) (hb2 : K' * componentBytes ty ≤ 536870912) (hb3 : K' ≤ 536870912) (hdf : fits ty (defaultValue ty) = true) (hdd : (defaultValue ty).isDefault = true) (hcells : cells + (1 + N') ≤ R.cells) (hslots : slots + (N' + N' * K') ≤ R.slots) (hz : ∀ c : ClassId, Jvm.Free.Multi.innerC c K' (defaultValue ty) = vp_cell c z) (hdg : decode cc pc = .ok (.multianewarray index 2, 4))
    (kk : ∀ (q : Nat) (r : Nat → Nat) (cA : ClassId) (H1 : Heap), (∀ i j : Nat, i < N' → j < N' → r i = r j → i = j) → (∀ i : Nat, i < N' → r i ∉ L) → va_K D cl (tys ++ [(cA, .array ty)]) s →
      va_P D cl ((X ++ [(q, .inl (cA, N', .inr (.inr (.inr (.inr (fun i => if i < N' then some (r i) else none))))))]) ++ va_pl (L ++ (List.range N').map r) (vr_up f ((List.range N').map r) (.inl (cy, z)))) H1 → va_D A ((X ++ [(q, .inl (cA, N', .inr (.inr (.inr (.inr (fun i => if i < N' then some (r i) else none))))))]) ++ va_pl (L ++ (List.range N').map r) (vr_up f ((List.range N').map r) (.inl (cy, z)))) → va_S A H0 H1 locs →
      W p l e R s m args below meth c H1 locs (cells + 1 + N') (slots + N' + N' * K') Q (F0 m (pc + 4) ls (.ref q :: rest))) : W p l e R s m args below meth c H locs cells slots Q (F0 m pc ls (.int k :: .int n :: rest)) := by
  subst hN
  subst hM
  intro T hT Xs
  obtain ⟨vm₁, cA, comp, -, fA, fC, hO, -, X', step⟩ := Xs.multianewarray2F hexec hown hclink (va_AOA.use hover) harr (g := F0 m pc ls (.int k :: .int n :: rest)) rfl (by rw [hb]; exact hdg) rfl hn hk hb1 hb2 hb3 hdf hdd hcells hslots
  have ec : some cy = some comp := hcy.symm.trans fC
  cases ec
  generalize hF : Jvm.Free.Multi.fill (T.setVm vm₁) cA cy n.toNatClampNeg k.toNatClampNeg (defaultValue ty) n.toNatClampNeg = F at X' step
  have hTh : (T.setVm vm₁).heap = H := hT
  obtain ⟨f1, f2, -, -⟩ := Jvm.Free.Multi.fill_facts (T.setVm vm₁) cA cy n.toNatClampNeg k.toNatClampNeg (defaultValue ty) n.toNatClampNeg
  rw [hF, hTh] at f1 f2
  have hold : ∀ x : Nat, x < H.size → F.heap[x]? = H[x]? := fun x hx => by
    have := Jvm.Free.Multi.fill_old (T.setVm vm₁) cA cy n.toNatClampNeg k.toNatClampNeg (defaultValue ty) (a := x) (by rw [hTh]; exact hx) n.toNatClampNeg
    rw [hF, hTh] at this
    exact this
  have hrow : ∀ j : Nat, j < n.toNatClampNeg → F.heap[H.size + 1 + j]? = some (vp_cell cy z) := fun j hj => by
    have := Jvm.Free.Multi.fill_inner (T.setVm vm₁) cA cy n.toNatClampNeg k.toNatClampNeg (defaultValue ty) n.toNatClampNeg j hj
    rw [hF, hTh, hz] at this
    exact this
  have hout : Jvm.Free.Multi.outerC cA n.toNatClampNeg H.size n.toNatClampNeg = vp_cell cA (n.toNatClampNeg, .inr (.inr (.inr (.inr (fun i => if i < n.toNatClampNeg then some (H.size + 1 + i) else none))))) := by
    rw [vp_cell_q]
    exact vr_outer cA n.toNatClampNeg H.size n.toNatClampNeg
  rw [hout] at f2
  have hlt : ∀ a, a ∈ L → a < H.size := fun a ha => by
    obtain ⟨k9, hk9⟩ := va_pl_get (X := X) (f := f) ha
    exact (hP k9 _ hk9).lt
  have hnl : ∀ i : Nat, i < n.toNatClampNeg → H.size + 1 + i ∉ L := fun i _ h => by
    have := hlt _ h
    omega
  have hnm : ∀ a, a ∈ (List.range n.toNatClampNeg).map (fun i => H.size + 1 + i) → a ∉ L := fun a ha h => by
    obtain ⟨i, -, rfl⟩ := List.mem_map.mp ha
    have := hlt _ h
    omega
  have hP0 : va_P D cl (X ++ va_pl L f) F.heap := hP.kept (fun k9 x hx => hold x.1 ((hP k9 x hx).lt))
  have hP1 : va_P D cl ((X ++ va_pl L f) ++ [(H.size, .inl (cA, n.toNatClampNeg, .inr (.inr (.inr (.inr (fun i => if i < n.toNatClampNeg then some (H.size + 1 + i) else none))))))]) F.heap := hP0.app (fun k9 x hx => by
    have h0 : k9 < 1 := (List.getElem?_eq_some_iff.mp hx).1
    rw [show k9 = 0 by omega] at hx
    cases hx
    exact f2)
  have hP2 : va_P D cl (((X ++ va_pl L f) ++ [(H.size, .inl (cA, n.toNatClampNeg, .inr (.inr (.inr (.inr (fun i => if i < n.toNatClampNeg then some (H.size + 1 + i) else none))))))]) ++ ((List.range n.toNatClampNeg).map (fun i => H.size + 1 + i)).map (fun a => (a, .inl (cy, z)))) F.heap := hP1.app (fun k9 x hx => by
    obtain ⟨a, ha, rfl⟩ := List.mem_map.mp (List.mem_of_getElem? hx)
    obtain ⟨i, hi, rfl⟩ := List.mem_map.mp ha
    exact hrow i (List.mem_range.mp hi))
  have hD2 : va_D A (((X ++ va_pl L f) ++ [(H.size, .inl (cA, n.toNatClampNeg, .inr (.inr (.inr (.inr (fun i => if i < n.toNatClampNeg then some (H.size + 1 + i) else none))))))]) ++ ((List.range n.toNatClampNeg).map (fun i => H.size + 1 + i)).map (fun a => (a, .inl (cy, z)))) := by
    have hD1 := hD.push (e := .inl (cA, n.toNatClampNeg, .inr (.inr (.inr (.inr (fun i => if i < n.toNatClampNeg then some (H.size + 1 + i) else none)))))) hP rfl (hA _ hS.1)
    generalize hW1 : (X ++ va_pl L f) ++ [(H.size, .inl (cA, n.toNatClampNeg, .inr (.inr (.inr (.inr (fun i => if i < n.toNatClampNeg then some (H.size + 1 + i) else none))))))] = W1 at hD1 hP1 ⊢
    have hle : ∀ (k9 : Nat) (x : Nat × va_E), W1[k9]? = some x → x.1 ≤ H.size := fun k9 x hx => by
      rw [← hW1] at hx
      by_cases hl : k9 < (X ++ va_pl L f).length
      · rw [List.getElem?_append_left hl] at hx
        exact Nat.le_of_lt ((hP k9 x hx).lt)
      · rw [List.getElem?_append_right (by omega)] at hx
        have h0 : k9 - (X ++ va_pl L f).length < 1 := (List.getElem?_eq_some_iff.mp hx).1
        rw [show k9 - (X ++ va_pl L f).length = 0 by omega] at hx
        cases hx
        exact Nat.le_refl _
    have hr : ∀ (k9 : Nat) (x : Nat × va_E), (((List.range n.toNatClampNeg).map (fun i => H.size + 1 + i)).map (fun a => ((a, .inl (cy, z)) : Nat × va_E)))[k9]? = some x → x.1 = H.size + 1 + k9 := fun k9 x hx => by
      rw [List.getElem?_map, List.getElem?_map] at hx
      by_cases h9 : k9 < n.toNatClampNeg
      · rw [List.getElem?_range h9] at hx
        cases hx
        rfl
      · have hn0 : (List.range n.toNatClampNeg)[k9]? = none := List.getElem?_eq_none (by rw [List.length_range]; omega)
        rw [hn0] at hx
        cases hx
    refine ⟨fun i j x y hi hj hxy => ?_, fun k9 x hx => ?_⟩
    · by_cases h1 : i < W1.length <;> by_cases h2 : j < W1.length
      · rw [List.getElem?_append_left h1] at hi
        rw [List.getElem?_append_left h2] at hj
        exact hD1.1 i j x y hi hj hxy
      · rw [List.getElem?_append_left h1] at hi
        rw [List.getElem?_append_right (by omega)] at hj
        have := hle _ _ hi
        have := hr _ _ hj
        omega
      · rw [List.getElem?_append_right (by omega)] at hi
        rw [List.getElem?_append_left h2] at hj
        have := hle _ _ hj
        have := hr _ _ hi
        omega
      · rw [List.getElem?_append_right (by omega)] at hi hj
        have := hr _ _ hi
        have := hr _ _ hj
        omega
    · by_cases h1 : k9 < W1.length
      · rw [List.getElem?_append_left h1] at hx
        exact hD1.2 k9 x hx
      · rw [List.getElem?_append_right (by omega)] at hx
        have := hr _ _ hx
        exact hA _ (by have := hS.1; omega)
  have hAr : ArrOfT s cA (.array ty) := fun N9 z9 => by
    obtain ⟨-, k9, hk9, cm9, hkk9⟩ := (hO 0 0 0).1
    exact ⟨(fun q hq => by cases hq), k9, hk9, cm9, hkk9⟩
  have hK2 : va_K D cl (tys ++ [(cA, .array ty)]) s := ⟨hK.1, fun k9 x hx => by
    by_cases hl : k9 < tys.length
    · rw [List.getElem?_append_left hl] at hx
      exact hK.2 k9 x hx
    · rw [List.getElem?_append_right (by omega)] at hx
      have h0 : k9 - tys.length < 1 := (List.getElem?_eq_some_iff.mp hx).1
      rw [show k9 - tys.length = 0 by omega] at hx
      cases hx
      exact ⟨hAr, fA⟩⟩
  obtain ⟨t, a1, b1⟩ := kk H.size (fun i => H.size + 1 + i) cA F.heap (fun i j _ _ h => by have h9 : H.size + 1 + i = H.size + 1 + j := h; omega) hnl hK2 (by rw [← vr_rows hnm]; exact vr_lay hP2) (by rw [← vr_rows hnm]; exact vr_layD hD2) ⟨by rw [f1]; have := hS.1; omega, fun x h1 h2 => (hold x (Nat.lt_of_lt_of_le h1 hS.1)).trans (hS.2.1 x h1 h2), hS.2.2⟩ F rfl X'
  refine ⟨t, step t ?_, b1⟩
  have e : T.heap.size = H.size := by rw [hT]
  rw [e]
  exact a1
end VGM
/-! ===== END ===== -/
end
section
/-! ===== BEGIN words of one list among another's, by their places ===== -/
theorem goodIn_r {big : List Cond} (ws : List Cond) (ps : List Nat) (hp : ws = ps.filterMap (fun i => big[i]?)) (h : ws.all goodWord = true) : GoodIn big ws := by
  intro w hw
  have h1 := List.all_eq_true.mp h w hw
  rw [hp] at hw
  obtain ⟨i, -, hi⟩ := List.mem_filterMap.mp hw
  have hm : w ∈ big := by first | exact List.mem_of_getElem? hi | exact List.getElem?_mem hi
  exact ⟨hm, good_of_word h1⟩
theorem goodIn_app {big a b : List Cond} (ha : GoodIn big a) (hb : GoodIn big b) : GoodIn big (a ++ b) := fun w h => (List.mem_append.mp h).elim (ha w) (hb w)
theorem goodIn_ca {big a b : List Cond} {c : Cond} (ha : GoodIn big (c :: a)) (hb : GoodIn big b) : GoodIn big (c :: (a ++ b)) := fun w h => (List.mem_cons.mp h).elim (fun e => ha w (List.mem_cons.mpr (Or.inl e))) (fun h => (List.mem_append.mp h).elim (fun h => ha w (List.mem_cons.mpr (Or.inr h))) (hb w))
theorem goodIn_sub {big ws : List Cond} (hm : ∀ w ∈ ws, w ∈ big) (h : ws.all goodWord = true) : GoodIn big ws := fun w hw => ⟨hm w hw, good_of_word (List.all_eq_true.mp h w hw)⟩
/-! ===== END ===== -/
/-! ===== BEGIN exceptions that leave a method, and their catching by the caller (launches without stack traces) ===== -/
section VXA
/-! The laws vx_back, vx_callV, vx_callS, vx_callSW, vx_throw0, vx_throwS follow proofs of the library, with one case more: JvmDerived/Free/Laws.lean (Back.of_free), Shelf42/LK1.lean (callV, callS), Shelf/KitTraced.lean (throwNew0V, throwNewS). -/
/-- where a method has thrown q: the class by its name, the cell, what was written, the world -/
def vx_T (XC : String → State → State → Prop) (st : State) (q : Addr) (t : State) (mc ms : Nat) (free : Addr → Prop) : Prop :=
  ∃ (E : String) (ce : Cell) (L : List Loc), XC E st t ∧ t.heap[q]? = some ce ∧ ce.vm = .none ∧ st.vm.findClass E = some ce.cls ∧ st.WarmedH t.vm ∧ st.sameButNew ({ t with vm := st.vm } : State) L mc ms ∧ ∀ z ∈ L, free z.base
def vx_Q (Qc : Array Value → State → Outcome → State → Prop) (XC : String → State → State → Prop) (mc ms : Nat) (free : Addr → Prop) : Array Value → State → Outcome → State → Prop := fun a st o t =>
  (Qc a st o t ∧ ∃ L, FrameEnd st o t L mc ms ∧ ∀ q ∈ L, free q.base) ∨ ∃ q, o = .threw q ∧ vx_T XC st q t mc ms free
/-- a callee that returns or throws -/
def vx_Met (l : Launch) (y : MethodName) (ws : List Cond) (rm : Room) (Pc : Array Value → State → Prop) (Qc : Array Value → State → Outcome → State → Prop) (XC : String → State → State → Prop) (mc ms : Nat) (free : Addr → Prop) : Prop :=
  MetFree l y (headSpec ws rm) Pc (fun _ _ _ _ _ => True) (vx_Q Qc XC mc ms free)
def vx_Post (XC : String → State → State → Prop) (mc ms : Nat) (free : Addr → Prop) : Pt → Array Value → Addr → Pt → Prop := fun A a q B =>
  ∃ (g : JFrame) (mk : MethodId) (t : State) (L : List Loc) (E : String) (ce : Cell), B.U.heap = t.heap ∧ B.U.vm = t.vm ∧ XC E (A.U.calling g mk a) t ∧ t.heap[q]? = some ce ∧ ce.vm = .none ∧ A.U.vm.findClass E = some ce.cls ∧ B.locs = A.locs ++ L ∧ (∀ z ∈ L, free z.base) ∧ B.cells = A.cells + mc ∧ B.slots = A.slots + ms
def vx_Back (l : Launch) (R : Room) (p : Program) (e : Env) (below : List Frame) (s : State) (sargs : Array Value) (y : MethodName) (len W9 : Nat)
    (Pre : Pt → Array Value → Prop) (Post : Pt → Array Value → Option Value → Pt → Prop) (PostX : Pt → Array Value → Addr → Pt → Prop) : Prop :=
  ∀ (m : MethodId) (meth : Method) (c : Code) (A : Pt) (g : JFrame) (ig : Instr) (mk : MethodId) (a : Array Value),
    Stand p l e R s m sargs below meth c A.U A.locs A.cells A.slots → g.method = m → g.locals.size = c.maxLocals → decode c.code g.pc = .ok (ig, len) →
    2 * g.monitorRoom + (g.stack.map fun v => v.category).sum ≤ W9 → A.U.methodNamed? y = some mk → Pre A a →
    (∃ (v : Option Value) (B : Pt), Stand p l e R s m sargs below meth c B.U B.locs B.cells B.slots ∧ Post A a v B ∧
      Steps p.tables e below (doInvoke e (A.U.setTop g) [] mk a).1 (B.U.setTop { g with pc := g.pc + len, stack := v.toList ++ g.stack })) ∨
    (∃ (q : Addr) (B : Pt), Stand p l e R s m sargs below meth c B.U B.locs B.cells B.slots ∧ PostX A a q B ∧
      Steps p.tables e below (doInvoke e (A.U.setTop g) [] mk a).1 ((B.U.setTop g).pushFrame (.throwing q)))
section Payer
variable {l : Launch} {R : Room} {p : Program} {e : Env} {below : List Frame} {s : State} {sargs : Array Value} {y : MethodName} {len W9 : Nat}
theorem vx_back {ws : List Cond} {rm : Room} {Pc : Array Value → State → Prop} {Qc : Array Value → State → Outcome → State → Prop} {XC : String → State → State → Prop} {mc ms : Nat} {free : Addr → Prop} {bytes : ByteArray} {maxL : Nat} {ret : Option FieldType}
    (hM : vx_Met l y ws rm Pc Qc XC mc ms free) (hblind : FrameBlind Pc) (hrc : rm.cells = mc) (hrs : rm.slots = ms)
    (hframes : rm.frames + 1 ≤ R.frames) (hlocals : W9 + (maxL + 11) + rm.locals ≤ R.locals)
    (hws : ∀ w ∈ ws, ∀ a' U, s.WarmedH U.vm → w.before a' U = true) (hcode : Cond.code y bytes maxL ret ∈ ws) (hinit : ∀ a' U, s.WarmedH U.vm → (Cond.initialized y.cls).before a' U = true) :
    vx_Back l R p e below s sargs y len W9 (PreOf R mc ms Pc) (PostOf Qc mc ms free) (vx_Post XC mc ms free) := by
  intro m meth c A g ig mk a X hg hsize hdg hW hn hp
  have h1 : (headSpec ws rm).pre.before a A.U = true := atoms_intro fun w hw => hws w hw _ _ X.warmed
  have h2 : (Cond.code y bytes maxL ret).before a A.U = true := hws _ hcode _ _ X.warmed
  have h3 : (Cond.initialized y.cls).before a A.U = true := hinit _ _ X.warmed
  have h4 : A.cells + (headSpec ws rm).room.cells ≤ R.cells := by rw [show (headSpec ws rm).room.cells = mc from hrc]; exact hp.1
  have h5 : A.slots + (headSpec ws rm).room.slots ≤ R.slots := by rw [show (headSpec ws rm).room.slots = ms from hrs]; exact hp.2.1
  have hPc : Pc a (A.U.calling g mk a) := hblind _ _ _ _ hp.2.2
  obtain ⟨U, Ls, c0, s0⟩ := A
  dsimp only [Pt.U, Pt.locs, Pt.cells, Pt.slots] at h1 h2 h3 h4 h5 X hn hPc ⊢
  obtain ⟨methY, cY, hmY, hcY, -, hlY, -, -, -, -⟩ := Cond.code_spec hn h2
  obtain ⟨kY, hkY, -⟩ := className_of_methodNamed hn
  have hinitY : kY.init = .initialized := Cond.initialized_spec (findClass_of_methodNamed hn) hkY h3
  have h : At U g.method c below := by rw [hg]; exact X.here
  have hlocals9 : W9 + (maxL + 11) + (headSpec ws rm).room.locals ≤ R.locals := hlocals
  have happ : (headSpec ws rm).appliesLoose y e.platform (U.calling g mk a) = true :=
    Spec.appliesLoose_calling (g := g) h hdg hn hkY hinitY
      (X.room_calling (g := g) (R' := (headSpec ws rm).room) hsize hmY hcY hframes (by rw [hlY]; omega) h4 h5) h1
  obtain ⟨mid, hmid⟩ := h.above
  have hfr : (U.setTop g).frames = (.java g :: mid) ++ below := by rw [State.frames_setTop' g h.top, hmid]; rfl
  obtain ⟨o, s₂, hsteps, -, hend, hq⟩ := Steps.callFree hM p X.admits X.cas X.clock (acts := []) hfr happ hPc trivial
  have hq' : vx_Q Qc XC mc ms free a (U.calling g mk a) o s₂ := hq
  rw [State.frames_setTop' g h.top] at hend
  obtain ⟨g₀, hg0⟩ := Option.isSome_iff_exists.mp h.top
  obtain ⟨r, hr⟩ := State.topJava?_eq_some.mp hg0
  have hr' : (({ U with heap := s₂.heap, slotsUsed := s₂.slotsUsed } : State).setVm s₂.vm).frames = .java g₀ :: r := hr
  rcases hq' with ⟨hqc, L, hfe, hL⟩ | ⟨q, rfl, E, ce, L, hx, hce, hcv, hcl, hW₂, hsm, hL⟩
  · obtain ⟨⟨v, rfl⟩, hW₂, e2, q2, q3, q4, q5, q6⟩ := id hfe
    have e3 : s₂ = ({ (U.calling g mk a).setFrames s₂.frames with heap := s₂.heap, slotsUsed := s₂.slotsUsed } : State).setVm s₂.vm := by
      have : s₂ = ({ s₂ with vm := (U.calling g mk a).vm } : State).setVm s₂.vm := rfl
      rw [e2] at this
      exact this
    obtain ⟨c₂, i₂, len₂, hc₂, hd₂, hf₂⟩ := hend
    have hW' : U.WarmedH s₂.vm := hW₂
    have hcc : c₂ = c := by
      have h1 : s₂.code? g.method = U.code? g.method := by
        rw [State.code?_eq, State.code?_eq, hW'.alike.method?]
      exact Option.some.inj (hc₂.symm.trans (h1.trans h.code))
    subst hcc
    have hlen : len₂ = len := by rw [hdg] at hd₂; cases hd₂; rfl
    subst hlen
    have hs₂ : s₂ = (({ U with heap := s₂.heap, slotsUsed := s₂.slotsUsed } : State).setVm s₂.vm).setTop { g with pc := g.pc + len₂, stack := v.toList ++ g.stack } := by
      refine e3.trans ?_
      rw [hf₂, State.calling_eq h.top, State.setFrames_setFrames, State.setTop_of_frames _ hr', hr]
      rfl
    have hsame : U.sameButNew ({ U with heap := s₂.heap, slotsUsed := s₂.slotsUsed } : State) L mc ms := by
      refine ⟨?_, q2, q3, q4, q5, q6⟩
      obtain ⟨t, ht, -⟩ := State.frames_cons hr
      show ({ U with heap := s₂.heap, slotsUsed := s₂.slotsUsed } : State) = { U.setFrames U.frames with heap := s₂.heap, slotsUsed := s₂.slotsUsed }
      rw [State.setFrames_self ht]
    subst hg
    refine Or.inl ⟨v, ⟨(({ U with heap := s₂.heap, slotsUsed := s₂.slotsUsed } : State).setVm s₂.vm), Ls ++ L, c0 + mc, s0 + ms⟩,
      ⟨X.admits, X.cas, X.clock, X.frames, X.room, X.hears, X.method, X.code, (X.here.setHeapUsed s₂.heap s₂.slotsUsed).setVm hW'.alike, X.tail, State.WarmedH.trans X.warmed hW', X.limits, X.bytes, X.same.trans (hsame.setVm s.vm)⟩,
      ⟨g, mk, s₂, L, rfl, rfl, hqc, rfl, hL, rfl, rfl⟩, ?_⟩
    show Steps p.tables e below _ ((({ U with heap := s₂.heap, slotsUsed := s₂.slotsUsed } : State).setVm s₂.vm).setTop { g with pc := g.pc + len₂, stack := v.toList ++ g.stack })
    rw [← hs₂]
    exact hsteps
  · obtain ⟨e2, q2, q3, q4, q5, q6⟩ := id hsm
    have e3 : s₂ = ({ (U.calling g mk a).setFrames s₂.frames with heap := s₂.heap, slotsUsed := s₂.slotsUsed } : State).setVm s₂.vm := by
      have : s₂ = ({ s₂ with vm := (U.calling g mk a).vm } : State).setVm s₂.vm := rfl
      rw [e2] at this
      exact this
    have hf₂ : s₂.frames = .throwing q :: .java g :: U.frames.tail := hend
    have hW' : U.WarmedH s₂.vm := hW₂
    have hs₂ : s₂ = ((({ U with heap := s₂.heap, slotsUsed := s₂.slotsUsed } : State).setVm s₂.vm).setTop g).pushFrame (.throwing q) := by
      refine e3.trans ?_
      rw [hf₂, State.calling_eq h.top, State.setFrames_setFrames, State.pushFrame, State.frames_setTop _ hr', State.setTop_of_frames _ hr', State.setFrames_setFrames, hr]
      rfl
    have hsame : U.sameButNew ({ U with heap := s₂.heap, slotsUsed := s₂.slotsUsed } : State) L mc ms := by
      refine ⟨?_, q2, q3, q4, q5, q6⟩
      obtain ⟨t, ht, -⟩ := State.frames_cons hr
      show ({ U with heap := s₂.heap, slotsUsed := s₂.slotsUsed } : State) = { U.setFrames U.frames with heap := s₂.heap, slotsUsed := s₂.slotsUsed }
      rw [State.setFrames_self ht]
    subst hg
    refine Or.inr ⟨q, ⟨(({ U with heap := s₂.heap, slotsUsed := s₂.slotsUsed } : State).setVm s₂.vm), Ls ++ L, c0 + mc, s0 + ms⟩,
      ⟨X.admits, X.cas, X.clock, X.frames, X.room, X.hears, X.method, X.code, (X.here.setHeapUsed s₂.heap s₂.slotsUsed).setVm hW'.alike, X.tail, State.WarmedH.trans X.warmed hW', X.limits, X.bytes, X.same.trans (hsame.setVm s.vm)⟩,
      ⟨g, mk, s₂, L, E, ce, rfl, rfl, hx, hce, hcv, hcl, rfl, hL, rfl, rfl⟩, ?_⟩
    show Steps p.tables e below _ (((({ U with heap := s₂.heap, slotsUsed := s₂.slotsUsed } : State).setVm s₂.vm).setTop g).pushFrame (.throwing q))
    rw [← hs₂]
    exact hsteps
end Payer
section Calls
variable {p : Program} {l : Launch} {e : Env} {R : Room} {s : State} {m : MethodId} {args : Array Value} {below : List Frame} {meth : Method} {c : Code} {T : State} {locs : List Loc} {cells slots : Nat}
theorem vx_callV (X : Stand p l e R s m args below meth c T locs cells slots) (hexec : p.tables.exec = Jvm.exec) {own C : String} {index : Nat} {y : MethodName} {bytes : ByteArray} {maxL : Nat} {ret : Option FieldType}
    (hown : s.vm.findClass own = some m.cls) (hlink : (Cond.methodLink own index y).before args s = true) (hinst : (Cond.instanceMethod y).before args s = true) (hsel : (Cond.selects C y y).before args s = true)
    (hcode : (Cond.code y bytes maxL ret).before args s = true) (hy : y.cls ≠ "java/lang/invoke/MethodHandle" ∧ y.cls ≠ "java/lang/invoke/VarHandle")
    {W9 : Nat} {Pre : Pt → Array Value → Prop} {Post : Pt → Array Value → Option Value → Pt → Prop} {PostX : Pt → Array Value → Addr → Pt → Prop} (hK : vx_Back l R p e below s args y 3 W9 Pre Post PostX)
    {b : Addr} {cellB : Cell} (hcell : T.heap[b]? = some cellB) (hobj : cellB.vm.isStatics = false) (hcls : s.vm.findClass C = some cellB.cls)
    {g : JFrame} (hg : g.method = m) (hsize : g.locals.size = c.maxLocals) {argsL rest : List Value} (hlen : ∀ sig, parseMethodDescriptor y.desc = some sig → argsL.length = sig.parameters.length)
    (hstack : g.stack = argsL.reverse ++ .ref b :: rest) (hW : 2 * g.monitorRoom + (rest.map fun v => v.category).sum ≤ W9) (hdg : decode c.code g.pc = .ok (.invokevirtual index, 3))
    (hpre : ∀ vm₁, s.WarmedH vm₁ → Pre ⟨T.setVm vm₁, locs, cells, slots⟩ (Value.ref b :: argsL).toArray) :
    (∃ (v : Option Value) (vm₁ : Vm) (B : Pt), s.WarmedH vm₁ ∧ Stand p l e R s m args below meth c B.U B.locs B.cells B.slots ∧ Post ⟨T.setVm vm₁, locs, cells, slots⟩ (Value.ref b :: argsL).toArray v B ∧
      ∀ target, Steps p.tables e below (B.U.setTop { g with pc := g.pc + 3, stack := v.toList ++ rest }) target → Steps p.tables e below (T.setTop g) target) ∨
    (∃ (q : Addr) (vm₁ : Vm) (B : Pt), s.WarmedH vm₁ ∧ Stand p l e R s m args below meth c B.U B.locs B.cells B.slots ∧ PostX ⟨T.setVm vm₁, locs, cells, slots⟩ (Value.ref b :: argsL).toArray q B ∧
      Steps p.tables e below (T.setTop g) ((B.U.setTop { g with stack := rest }).pushFrame (.throwing q))) := by
  obtain ⟨mk, methM, hnamed, hmethM, hstM, habM⟩ := Cond.instanceMethod_spec hinst
  obtain ⟨methM', cM, hmethM', -, -, -, -, -, -, hsigM⟩ := Cond.code_spec hnamed hcode
  cases hmethM.symm.trans hmethM'
  obtain ⟨c2, r2, m2, q1, q2, q3, q4, kP, hkP, hkPi⟩ := Cond.selects_spec hsel
  cases hcls.symm.trans q1
  cases (State.methodFound?_of_named hnamed hy).symm.trans q2
  cases hnamed.symm.trans q3
  have hselP : selectMethod e.platform s.vm cellB.cls mk = .method mk := by rw [Launch.admits_selectMethod X.admits]; exact q4
  obtain ⟨vm₁, X₁, hstep₁⟩ := X.invokevirtual hexec hown hlink hnamed hmethM hstM hkP hkPi hy (a := b) (cell := cellB) hcell
    (fun z h => by rw [h] at hobj; cases hobj) hselP hmethM habM hkP hkPi (g := g) hg (argsL := argsL) (rest := rest) (hlen _ hsigM) hstack hdg
  rcases hK m meth c ⟨T.setVm vm₁, locs, cells, slots⟩ { g with stack := rest } (.invokevirtual index) mk (Value.ref b :: argsL).toArray X₁ hg hsize hdg hW (X₁.named hnamed) (hpre vm₁ X₁.warmed) with ⟨v, B, X', hpost, hsteps⟩ | ⟨q, B, X', hpost, hsteps⟩
  · exact Or.inl ⟨v, vm₁, B, X₁.warmed, X', hpost, fun target h => hstep₁ _ fun acts => by rw [doInvoke_state]; exact hsteps.trans h⟩
  · exact Or.inr ⟨q, vm₁, B, X₁.warmed, X', hpost, hstep₁ _ fun acts => by rw [doInvoke_state]; exact hsteps⟩
theorem vx_callS (X : Stand p l e R s m args below meth c T locs cells slots) (hexec : p.tables.exec = Jvm.exec) {own : String} {index : Nat} {y : MethodName} {bytes : ByteArray} {maxL : Nat} {ret : Option FieldType}
    (hown : s.vm.findClass own = some m.cls) (hlink : (Cond.methodLink own index y).before args s = true) (hstat : (Cond.static y).before args s = true) (hinit : (Cond.initialized y.cls).before args s = true)
    (hcode : (Cond.code y bytes maxL ret).before args s = true) (hy : y.cls ≠ "java/lang/invoke/MethodHandle" ∧ y.cls ≠ "java/lang/invoke/VarHandle")
    {W9 : Nat} {Pre : Pt → Array Value → Prop} {Post : Pt → Array Value → Option Value → Pt → Prop} {PostX : Pt → Array Value → Addr → Pt → Prop} (hK : vx_Back l R p e below s args y 3 W9 Pre Post PostX)
    {g : JFrame} (hg : g.method = m) (hsize : g.locals.size = c.maxLocals) {argsL rest : List Value} (hlen : ∀ sig, parseMethodDescriptor y.desc = some sig → argsL.length = sig.parameters.length)
    (hstack : g.stack = argsL.reverse ++ rest) (hW : 2 * g.monitorRoom + (rest.map fun v => v.category).sum ≤ W9) (hdg : decode c.code g.pc = .ok (.invokestatic index, 3))
    (hpre : ∀ vm₁, s.WarmedH vm₁ → Pre ⟨T.setVm vm₁, locs, cells, slots⟩ argsL.toArray) :
    (∃ (v : Option Value) (vm₁ : Vm) (B : Pt), s.WarmedH vm₁ ∧ Stand p l e R s m args below meth c B.U B.locs B.cells B.slots ∧ Post ⟨T.setVm vm₁, locs, cells, slots⟩ argsL.toArray v B ∧
      ∀ target, Steps p.tables e below (B.U.setTop { g with pc := g.pc + 3, stack := v.toList ++ rest }) target → Steps p.tables e below (T.setTop g) target) ∨
    (∃ (q : Addr) (vm₁ : Vm) (B : Pt), s.WarmedH vm₁ ∧ Stand p l e R s m args below meth c B.U B.locs B.cells B.slots ∧ PostX ⟨T.setVm vm₁, locs, cells, slots⟩ argsL.toArray q B ∧
      Steps p.tables e below (T.setTop g) ((B.U.setTop { g with stack := rest }).pushFrame (.throwing q))) := by
  obtain ⟨mk, hnamed⟩ := Cond.code_named hcode
  obtain ⟨methM, cM, hmethM, -, -, -, -, -, -, hsigM⟩ := Cond.code_spec hnamed hcode
  have hstatic : methM.isStatic = true := Cond.static_spec hnamed hmethM hstat
  obtain ⟨kP, hkP, -⟩ := className_of_methodNamed hnamed
  have hinitP : kP.init = .initialized := Cond.initialized_spec (findClass_of_methodNamed hnamed) hkP hinit
  obtain ⟨vm₁, X₁, hstep₁⟩ := X.invokestatic hexec hown hlink hnamed hmethM hstatic hkP hinitP hy (g := g) hg (argsL := argsL) (rest := rest) (hlen _ hsigM) hstack hdg
  rcases hK m meth c ⟨T.setVm vm₁, locs, cells, slots⟩ { g with stack := rest } (.invokestatic index) mk argsL.toArray X₁ hg hsize hdg hW (X₁.named hnamed) (hpre vm₁ X₁.warmed) with ⟨v, B, X', hpost, hsteps⟩ | ⟨q, B, X', hpost, hsteps⟩
  · exact Or.inl ⟨v, vm₁, B, X₁.warmed, X', hpost, fun target h => hstep₁ _ fun acts => by rw [doInvoke_state]; exact hsteps.trans h⟩
  · exact Or.inr ⟨q, vm₁, B, X₁.warmed, X', hpost, hstep₁ _ fun acts => by rw [doInvoke_state]; exact hsteps⟩
end Calls
theorem vx_cls {s : State} {T : State} {vm₁ : Vm} {E : String} {k : ClassId} (hW : s.WarmedH vm₁) (h : (T.setVm vm₁).vm.findClass E = some k) : s.vm.findClass E = some k := by
  have h1 : vm₁.findClass E = some k := h
  rw [hW.alike.findClass] at h1
  exact h1
/-- the method's frame g, with q thrown over it -/
def vx_W (p : Program) (l : Launch) (e : Env) (R : Room) (s : State) (m : MethodId) (args : Array Value) (below : List Frame) (meth : Method) (c : Code) (H : Heap) (locs : List Loc) (cells slots : Nat) (Q : State → Prop) (g : JFrame) (q : Addr) : Prop :=
  ∀ T : State, T.heap = H → Stand p l e R s m args below meth c T locs cells slots → ∃ t, Steps p.tables e below ((T.setTop g).pushFrame (.throwing q)) t ∧ Q t
def vx_Run (p : Program) (l : Launch) (e : Env) (R : Room) (s : State) (m : MethodId) (args : Array Value) (below : List Frame) (meth : Method) (c : Code) (H : Heap) (locs : List Loc) (cells slots mc ms : Nat) (g : JFrame) (rest : List Value) (Qa : State → Outcome → State → Prop) (XC : String → State → State → Prop) (free : Addr → Prop) : Prop :=
  ∀ T : State, T.heap = H → Stand p l e R s m args below meth c T locs cells slots →
    (∃ (v : Option Value) (st₀ t T' : State) (L : List Loc), st₀.heap = H ∧ Stand p l e R s m args below meth c T' (locs ++ L) (cells + mc) (slots + ms) ∧ (∀ q ∈ L, free q.base) ∧ T'.heap = t.heap ∧ T'.vm = t.vm ∧ Qa st₀ (.returned v) t ∧
      Goes p e below T g T' { g with pc := g.pc + 3, stack := v.toList ++ rest }) ∨
    (∃ (q : Addr) (st₀ t T' : State) (L : List Loc) (E : String) (ce : Cell), st₀.heap = H ∧ Stand p l e R s m args below meth c T' (locs ++ L) (cells + mc) (slots + ms) ∧ (∀ z ∈ L, free z.base) ∧ T'.heap = t.heap ∧ T'.vm = t.vm ∧ XC E st₀ t ∧ t.heap[q]? = some ce ∧ ce.vm = .none ∧ s.vm.findClass E = some ce.cls ∧
      Steps p.tables e below (T.setTop g) ((T'.setTop { g with stack := rest }).pushFrame (.throwing q)))
def vx_X {S : Type} (px : S → Prop) (B : String → S → State → Prop) (A : Nat → Prop) : String → State → State → Prop := fun E st t => ∃ u : S, px u ∧ B E u t ∧ va_F A st t
section Runs
variable {p : Program} {l : Launch} {e : Env} {R : Room} {s : State} {m : MethodId} {args : Array Value} {below : List Frame} {meth : Method} {c : Code} {H : Heap} {locs : List Loc} {cells slots : Nat}
variable {y : MethodName} {bytes cc : ByteArray} {maxL nL mc ms n index : Nat} {ret : Option FieldType} {ws : List Cond} {rm : Room} {Pc : Array Value → State → Prop} {Qc : Array Value → State → Outcome → State → Prop} {XC : String → State → State → Prop} {free : Addr → Prop} {Ts : List Cond} {own C : String} {b : Addr} {As rest : List Value} {g : JFrame}
theorem vx_callBack (cb : CallB R s args own index y bytes maxL ret ws rm mc ms n) (hM : vx_Met l y ws rm Pc Qc XC mc ms free) (hbl : FrameBlind Pc) : vx_Back l R p e below s args y 3 8 (PreOf R mc ms Pc) (PostOf Qc mc ms free) (vx_Post XC mc ms free) := by
  obtain ⟨hrc, hrs, hfr, hlo, hws, hcw, -, hini, -⟩ := cb
  exact vx_back (bytes := bytes) (maxL := maxL) (ret := ret) hM hbl hrc hrs hfr hlo hws hcw (fun a' U hW => word_at hW (Or.inl (by first | rfl | simp [Cond.onTables, Cond.keeps, Cond.steady])) hini)
theorem vx_runV (S : CallFix p m c cc nL s args Ts own) (hM : vx_Met l y ws rm Pc Qc XC mc ms free) (cw : CallW R s args own C index y bytes maxL ret ws rm mc ms n) (hp : PreV s H C b Pc As)
    (hg : g.method = m) (hn : As.length = n) (hsize : g.locals.size = nL) (hstack : g.stack = As.reverse ++ .ref b :: rest) (hW : 2 * g.monitorRoom + (rest.map fun v => v.category).sum ≤ 8) (hdg : decode cc g.pc = .ok (.invokevirtual index, 3)) (hf : cells + mc ≤ R.cells ∧ slots + ms ≤ R.slots) :
    vx_Run p l e R s m args below meth c H locs cells slots mc ms g rest (Qc (Value.ref b :: As).toArray) XC free := by
  have hK : vx_Back l R p e below s args y 3 8 (PreOf R mc ms Pc) (PostOf Qc mc ms free) (vx_Post XC mc ms free) := vx_callBack cw.1 hM hp.1
  obtain ⟨⟨-, -, -, -, -, -, hcode, -, hy, hlen, hl⟩, hin, hse⟩ := cw
  obtain ⟨hx, hb, hml, ho, -⟩ := S
  obtain ⟨-, ⟨cellB, hcB, hoB, hclB⟩, hPc⟩ := hp
  intro T hT X
  rcases vx_callV X hx (C := C) (bytes := bytes) (maxL := maxL) (ret := ret) ho hl hin hse hcode hy hK (by rw [hT]; exact hcB) hoB hclB hg (hsize.trans hml.symm) (argsL := As) (rest := rest) (fun sig h => hn.trans (hlen sig h)) hstack hW (by rw [hb]; exact hdg)
    (fun vm₁ hW₁ => ⟨hf.1, hf.2, hPc (T.setVm vm₁) hT hW₁⟩) with ⟨v, vm₁, ⟨U', l2, c2, s2⟩, hW₁, X', ⟨g', mk, t, L, e1, e2, hq, h1, hL, h2, h3⟩, st⟩ | ⟨q, vm₁, ⟨U', l2, c2, s2⟩, hW₁, X', ⟨g', mk, t, L, E, ce, e1, e2, hq, hce, hcv, hcl, h1, hL, h2, h3⟩, st⟩
  · dsimp only [Pt.U, Pt.locs, Pt.cells, Pt.slots] at X' e1 e2 h1 h2 h3 st
    subst h1; subst h2; subst h3
    exact Or.inl ⟨v, (T.setVm vm₁).calling g' mk (Value.ref b :: As).toArray, t, U', L, hT, X', hL, e1, e2, hq, st⟩
  · dsimp only [Pt.U, Pt.locs, Pt.cells, Pt.slots] at X' e1 e2 h1 h2 h3 st hcl
    subst h1; subst h2; subst h3
    exact Or.inr ⟨q, (T.setVm vm₁).calling g' mk (Value.ref b :: As).toArray, t, U', L, E, ce, hT, X', hL, e1, e2, hq, hce, hcv, vx_cls hW₁ hcl, st⟩
theorem vx_runS (S : CallFix p m c cc nL s args Ts own) (hM : vx_Met l y ws rm Pc Qc XC mc ms free) (cw : CallB R s args own index y bytes maxL ret ws rm mc ms n ∧ (Cond.static y).before args s = true) (hp : PreS s H Pc As)
    (hg : g.method = m) (hn : As.length = n) (hsize : g.locals.size = nL) (hstack : g.stack = As.reverse ++ rest) (hW : 2 * g.monitorRoom + (rest.map fun v => v.category).sum ≤ 8) (hdg : decode cc g.pc = .ok (.invokestatic index, 3)) (hf : cells + mc ≤ R.cells ∧ slots + ms ≤ R.slots) :
    vx_Run p l e R s m args below meth c H locs cells slots mc ms g rest (Qc As.toArray) XC free := by
  have hK : vx_Back l R p e below s args y 3 8 (PreOf R mc ms Pc) (PostOf Qc mc ms free) (vx_Post XC mc ms free) := vx_callBack cw.1 hM hp.1
  obtain ⟨⟨-, -, -, -, -, -, hcode, hini, hy, hlen, hl⟩, hstt⟩ := cw
  obtain ⟨hx, hb, hml, ho, -⟩ := S
  intro T hT X
  rcases vx_callS X hx (bytes := bytes) (maxL := maxL) (ret := ret) ho hl hstt hini hcode hy hK hg (hsize.trans hml.symm) (argsL := As) (rest := rest) (fun sig h => hn.trans (hlen sig h)) hstack hW (by rw [hb]; exact hdg)
    (fun vm₁ hW₁ => ⟨hf.1, hf.2, hp.2 (T.setVm vm₁) hT hW₁⟩) with ⟨v, vm₁, ⟨U', l2, c2, s2⟩, hW₁, X', ⟨g', mk, t, L, e1, e2, hq, h1, hL, h2, h3⟩, st⟩ | ⟨q, vm₁, ⟨U', l2, c2, s2⟩, hW₁, X', ⟨g', mk, t, L, E, ce, e1, e2, hq, hce, hcv, hcl, h1, hL, h2, h3⟩, st⟩
  · dsimp only [Pt.U, Pt.locs, Pt.cells, Pt.slots] at X' e1 e2 h1 h2 h3 st
    subst h1; subst h2; subst h3
    exact Or.inl ⟨v, (T.setVm vm₁).calling g' mk As.toArray, t, U', L, hT, X', hL, e1, e2, hq, st⟩
  · dsimp only [Pt.U, Pt.locs, Pt.cells, Pt.slots] at X' e1 e2 h1 h2 h3 st hcl
    subst h1; subst h2; subst h3
    exact Or.inr ⟨q, (T.setVm vm₁).calling g' mk As.toArray, t, U', L, E, ce, hT, X', hL, e1, e2, hq, hce, hcv, vx_cls hW₁ hcl, st⟩
end Runs
section Rows
variable {p : Program} {l : Launch} {e : Env} {R : Room} {s : State} {m : MethodId} {args : Array Value} {below : List Frame} {meth : Method} {c : Code} {H : Heap} {locs : List Loc} {cells slots : Nat} {Q : State → Prop}
variable {mc ms : Nat} {free : Addr → Prop} {A0 A1 : Nat → Prop} {H0 : Heap} {a : Array Value} {pc : Nat} {ls : Array Slot} {st0 rest : List Value}
theorem vx_keep {st₀ t T' : State} {L : List Loc} (h0 : st₀.heap = H) (e1 : T'.heap = t.heap) (hS : va_S A0 H0 H locs) (hA : ∀ q, q < H.size → A1 q → A0 q) (hf : ∀ q, free q → A0 q) (hL : ∀ q ∈ L, free q.base) (hF : va_F A1 st₀ t) :
    H.size ≤ T'.heap.size ∧ (∀ q : Nat, q < H.size → ¬ A1 q → T'.heap[q]? = H[q]?) ∧ va_S A0 H0 T'.heap (locs ++ L) := by
  obtain ⟨hz, hk⟩ := hF
  rw [h0] at hz hk
  exact ⟨by rw [e1]; exact hz, fun q h1 h2 => by rw [e1]; exact hk q h1 h2,
    ⟨Nat.le_trans hS.1 (by rw [e1]; exact hz), fun q h1 h2 => by rw [e1, hk q (Nat.lt_of_lt_of_le h1 hS.1) (fun z => h2 (hA q (Nat.lt_of_lt_of_le h1 hS.1) z))]; exact hS.2.1 q h1 h2, fun q hq => by
      rcases List.mem_append.mp hq with h | h
      · exact hS.2.2 q h
      · exact hf _ (hL q h)⟩⟩
theorem vx_calli {S SX : Type} {post : Int32 → S → Prop} {px : SX → Prop} {B : S → State → Prop} {BX : String → SX → State → Prop} {AX : Nat → Prop} (hr : vx_Run p l e R s m args below meth c H locs cells slots mc ms (F0 m pc ls st0) rest (va_Qi post B A1 a) (vx_X px BX AX) free) (hS : va_S A0 H0 H locs) (hA : ∀ q, q < H.size → A1 q → A0 q) (hf : ∀ q, free q → A0 q) (hAX : ∀ q, q < H.size → AX q → A0 q)
    (kx : ∀ (E : String) (ce : Cell) (q9 : Addr) (u : SX) (t : State) (H1 : Heap) (locs1 : List Loc), t.heap = H1 → s.vm.Alike t.vm → px u → BX E u t → H.size ≤ H1.size → (∀ q : Nat, q < H.size → ¬ AX q → H1[q]? = H[q]?) → va_S A0 H0 H1 locs1 → H1[q9]? = some ce → ce.vm = .none → s.vm.findClass E = some ce.cls → vx_W p l e R s m args below meth c H1 locs1 (cells + mc) (slots + ms) Q (F0 m pc ls rest) q9)
    (kk : ∀ (r : Int32) (u : S) (t : State) (H1 : Heap) (locs1 : List Loc), t.heap = H1 → s.vm.Alike t.vm → post r u → B u t → H.size ≤ H1.size → (∀ q : Nat, q < H.size → ¬ A1 q → H1[q]? = H[q]?) → va_S A0 H0 H1 locs1 → W p l e R s m args below meth c H1 locs1 (cells + mc) (slots + ms) Q (F0 m (pc + 3) ls (.int r :: rest))) : W p l e R s m args below meth c H locs cells slots Q (F0 m pc ls st0) := by
  intro T hT X
  rcases hr T hT X with ⟨v, st₀, t, T', L, h0, X', hL, e1, e2, ⟨⟨r, u, hv, hp, hb⟩, hF⟩, st⟩ | ⟨q, st₀, t, T', L, E, ce, h0, X', hL, e1, e2, ⟨u, hp, hb, hF⟩, hce, hcv, hcl, st⟩
  · cases hv
    obtain ⟨k1, k2, k3⟩ := vx_keep h0 e1 hS hA hf hL hF
    obtain ⟨t2, a1, b1⟩ := kk r u t T'.heap (locs ++ L) e1.symm (by rw [← e2]; exact X'.warmed.alike) hp hb k1 k2 k3 T' rfl X'
    exact ⟨t2, st t2 a1, b1⟩
  · obtain ⟨k1, k2, k3⟩ := vx_keep h0 e1 hS hAX hf hL hF
    obtain ⟨t2, a1, b1⟩ := kx E ce q u t T'.heap (locs ++ L) e1.symm (by rw [← e2]; exact X'.warmed.alike) hp hb k1 k2 k3 (by rw [e1]; exact hce) hcv hcl T' rfl X'
    exact ⟨t2, st.trans a1, b1⟩
theorem vx_calll {S SX : Type} {post : Int64 → S → Prop} {px : SX → Prop} {B : S → State → Prop} {BX : String → SX → State → Prop} {AX : Nat → Prop} (hr : vx_Run p l e R s m args below meth c H locs cells slots mc ms (F0 m pc ls st0) rest (va_Ql post B A1 a) (vx_X px BX AX) free) (hS : va_S A0 H0 H locs) (hA : ∀ q, q < H.size → A1 q → A0 q) (hf : ∀ q, free q → A0 q) (hAX : ∀ q, q < H.size → AX q → A0 q)
    (kx : ∀ (E : String) (ce : Cell) (q9 : Addr) (u : SX) (t : State) (H1 : Heap) (locs1 : List Loc), t.heap = H1 → s.vm.Alike t.vm → px u → BX E u t → H.size ≤ H1.size → (∀ q : Nat, q < H.size → ¬ AX q → H1[q]? = H[q]?) → va_S A0 H0 H1 locs1 → H1[q9]? = some ce → ce.vm = .none → s.vm.findClass E = some ce.cls → vx_W p l e R s m args below meth c H1 locs1 (cells + mc) (slots + ms) Q (F0 m pc ls rest) q9)
    (kk : ∀ (r : Int64) (u : S) (t : State) (H1 : Heap) (locs1 : List Loc), t.heap = H1 → s.vm.Alike t.vm → post r u → B u t → H.size ≤ H1.size → (∀ q : Nat, q < H.size → ¬ A1 q → H1[q]? = H[q]?) → va_S A0 H0 H1 locs1 → W p l e R s m args below meth c H1 locs1 (cells + mc) (slots + ms) Q (F0 m (pc + 3) ls (.long r :: rest))) : W p l e R s m args below meth c H locs cells slots Q (F0 m pc ls st0) := by
  intro T hT X
  rcases hr T hT X with ⟨v, st₀, t, T', L, h0, X', hL, e1, e2, ⟨⟨r, u, hv, hp, hb⟩, hF⟩, st⟩ | ⟨q, st₀, t, T', L, E, ce, h0, X', hL, e1, e2, ⟨u, hp, hb, hF⟩, hce, hcv, hcl, st⟩
  · cases hv
    obtain ⟨k1, k2, k3⟩ := vx_keep h0 e1 hS hA hf hL hF
    obtain ⟨t2, a1, b1⟩ := kk r u t T'.heap (locs ++ L) e1.symm (by rw [← e2]; exact X'.warmed.alike) hp hb k1 k2 k3 T' rfl X'
    exact ⟨t2, st t2 a1, b1⟩
  · obtain ⟨k1, k2, k3⟩ := vx_keep h0 e1 hS hAX hf hL hF
    obtain ⟨t2, a1, b1⟩ := kx E ce q u t T'.heap (locs ++ L) e1.symm (by rw [← e2]; exact X'.warmed.alike) hp hb k1 k2 k3 (by rw [e1]; exact hce) hcv hcl T' rfl X'
    exact ⟨t2, st.trans a1, b1⟩
theorem vx_callf {S SX : Type} {post : UInt32 → S → Prop} {px : SX → Prop} {B : S → State → Prop} {BX : String → SX → State → Prop} {AX : Nat → Prop} (hr : vx_Run p l e R s m args below meth c H locs cells slots mc ms (F0 m pc ls st0) rest (va_Qf post B A1 a) (vx_X px BX AX) free) (hS : va_S A0 H0 H locs) (hA : ∀ q, q < H.size → A1 q → A0 q) (hf : ∀ q, free q → A0 q) (hAX : ∀ q, q < H.size → AX q → A0 q)
    (kx : ∀ (E : String) (ce : Cell) (q9 : Addr) (u : SX) (t : State) (H1 : Heap) (locs1 : List Loc), t.heap = H1 → s.vm.Alike t.vm → px u → BX E u t → H.size ≤ H1.size → (∀ q : Nat, q < H.size → ¬ AX q → H1[q]? = H[q]?) → va_S A0 H0 H1 locs1 → H1[q9]? = some ce → ce.vm = .none → s.vm.findClass E = some ce.cls → vx_W p l e R s m args below meth c H1 locs1 (cells + mc) (slots + ms) Q (F0 m pc ls rest) q9)
    (kk : ∀ (r : UInt32) (u : S) (t : State) (H1 : Heap) (locs1 : List Loc), t.heap = H1 → s.vm.Alike t.vm → post r u → B u t → H.size ≤ H1.size → (∀ q : Nat, q < H.size → ¬ A1 q → H1[q]? = H[q]?) → va_S A0 H0 H1 locs1 → W p l e R s m args below meth c H1 locs1 (cells + mc) (slots + ms) Q (F0 m (pc + 3) ls (.float r :: rest))) : W p l e R s m args below meth c H locs cells slots Q (F0 m pc ls st0) := by
  intro T hT X
  rcases hr T hT X with ⟨v, st₀, t, T', L, h0, X', hL, e1, e2, ⟨⟨r, u, hv, hp, hb⟩, hF⟩, st⟩ | ⟨q, st₀, t, T', L, E, ce, h0, X', hL, e1, e2, ⟨u, hp, hb, hF⟩, hce, hcv, hcl, st⟩
  · cases hv
    obtain ⟨k1, k2, k3⟩ := vx_keep h0 e1 hS hA hf hL hF
    obtain ⟨t2, a1, b1⟩ := kk r u t T'.heap (locs ++ L) e1.symm (by rw [← e2]; exact X'.warmed.alike) hp hb k1 k2 k3 T' rfl X'
    exact ⟨t2, st t2 a1, b1⟩
  · obtain ⟨k1, k2, k3⟩ := vx_keep h0 e1 hS hAX hf hL hF
    obtain ⟨t2, a1, b1⟩ := kx E ce q u t T'.heap (locs ++ L) e1.symm (by rw [← e2]; exact X'.warmed.alike) hp hb k1 k2 k3 (by rw [e1]; exact hce) hcv hcl T' rfl X'
    exact ⟨t2, st.trans a1, b1⟩
theorem vx_calld {S SX : Type} {post : UInt64 → S → Prop} {px : SX → Prop} {B : S → State → Prop} {BX : String → SX → State → Prop} {AX : Nat → Prop} (hr : vx_Run p l e R s m args below meth c H locs cells slots mc ms (F0 m pc ls st0) rest (va_Qd post B A1 a) (vx_X px BX AX) free) (hS : va_S A0 H0 H locs) (hA : ∀ q, q < H.size → A1 q → A0 q) (hf : ∀ q, free q → A0 q) (hAX : ∀ q, q < H.size → AX q → A0 q)
    (kx : ∀ (E : String) (ce : Cell) (q9 : Addr) (u : SX) (t : State) (H1 : Heap) (locs1 : List Loc), t.heap = H1 → s.vm.Alike t.vm → px u → BX E u t → H.size ≤ H1.size → (∀ q : Nat, q < H.size → ¬ AX q → H1[q]? = H[q]?) → va_S A0 H0 H1 locs1 → H1[q9]? = some ce → ce.vm = .none → s.vm.findClass E = some ce.cls → vx_W p l e R s m args below meth c H1 locs1 (cells + mc) (slots + ms) Q (F0 m pc ls rest) q9)
    (kk : ∀ (r : UInt64) (u : S) (t : State) (H1 : Heap) (locs1 : List Loc), t.heap = H1 → s.vm.Alike t.vm → post r u → B u t → H.size ≤ H1.size → (∀ q : Nat, q < H.size → ¬ A1 q → H1[q]? = H[q]?) → va_S A0 H0 H1 locs1 → W p l e R s m args below meth c H1 locs1 (cells + mc) (slots + ms) Q (F0 m (pc + 3) ls (.double r :: rest))) : W p l e R s m args below meth c H locs cells slots Q (F0 m pc ls st0) := by
  intro T hT X
  rcases hr T hT X with ⟨v, st₀, t, T', L, h0, X', hL, e1, e2, ⟨⟨r, u, hv, hp, hb⟩, hF⟩, st⟩ | ⟨q, st₀, t, T', L, E, ce, h0, X', hL, e1, e2, ⟨u, hp, hb, hF⟩, hce, hcv, hcl, st⟩
  · cases hv
    obtain ⟨k1, k2, k3⟩ := vx_keep h0 e1 hS hA hf hL hF
    obtain ⟨t2, a1, b1⟩ := kk r u t T'.heap (locs ++ L) e1.symm (by rw [← e2]; exact X'.warmed.alike) hp hb k1 k2 k3 T' rfl X'
    exact ⟨t2, st t2 a1, b1⟩
  · obtain ⟨k1, k2, k3⟩ := vx_keep h0 e1 hS hAX hf hL hF
    obtain ⟨t2, a1, b1⟩ := kx E ce q u t T'.heap (locs ++ L) e1.symm (by rw [← e2]; exact X'.warmed.alike) hp hb k1 k2 k3 (by rw [e1]; exact hce) hcv hcl T' rfl X'
    exact ⟨t2, st.trans a1, b1⟩
theorem vx_callv {S SX : Type} {post : S → Prop} {px : SX → Prop} {B : S → State → Prop} {BX : String → SX → State → Prop} {AX : Nat → Prop} (hr : vx_Run p l e R s m args below meth c H locs cells slots mc ms (F0 m pc ls st0) rest (va_Qv post B A1 a) (vx_X px BX AX) free) (hS : va_S A0 H0 H locs) (hA : ∀ q, q < H.size → A1 q → A0 q) (hf : ∀ q, free q → A0 q) (hAX : ∀ q, q < H.size → AX q → A0 q)
    (kx : ∀ (E : String) (ce : Cell) (q9 : Addr) (u : SX) (t : State) (H1 : Heap) (locs1 : List Loc), t.heap = H1 → s.vm.Alike t.vm → px u → BX E u t → H.size ≤ H1.size → (∀ q : Nat, q < H.size → ¬ AX q → H1[q]? = H[q]?) → va_S A0 H0 H1 locs1 → H1[q9]? = some ce → ce.vm = .none → s.vm.findClass E = some ce.cls → vx_W p l e R s m args below meth c H1 locs1 (cells + mc) (slots + ms) Q (F0 m pc ls rest) q9)
    (kk : ∀ (u : S) (t : State) (H1 : Heap) (locs1 : List Loc), t.heap = H1 → s.vm.Alike t.vm → post u → B u t → H.size ≤ H1.size → (∀ q : Nat, q < H.size → ¬ A1 q → H1[q]? = H[q]?) → va_S A0 H0 H1 locs1 → W p l e R s m args below meth c H1 locs1 (cells + mc) (slots + ms) Q (F0 m (pc + 3) ls (rest))) : W p l e R s m args below meth c H locs cells slots Q (F0 m pc ls st0) := by
  intro T hT X
  rcases hr T hT X with ⟨v, st₀, t, T', L, h0, X', hL, e1, e2, ⟨⟨u, hv, hp, hb⟩, hF⟩, st⟩ | ⟨q, st₀, t, T', L, E, ce, h0, X', hL, e1, e2, ⟨u, hp, hb, hF⟩, hce, hcv, hcl, st⟩
  · cases hv
    obtain ⟨k1, k2, k3⟩ := vx_keep h0 e1 hS hA hf hL hF
    obtain ⟨t2, a1, b1⟩ := kk u t T'.heap (locs ++ L) e1.symm (by rw [← e2]; exact X'.warmed.alike) hp hb k1 k2 k3 T' rfl X'
    exact ⟨t2, st t2 a1, b1⟩
  · obtain ⟨k1, k2, k3⟩ := vx_keep h0 e1 hS hAX hf hL hF
    obtain ⟨t2, a1, b1⟩ := kx E ce q u t T'.heap (locs ++ L) e1.symm (by rw [← e2]; exact X'.warmed.alike) hp hb k1 k2 k3 (by rw [e1]; exact hce) hcv hcl T' rfl X'
    exact ⟨t2, st.trans a1, b1⟩
/-- caught by the row x of this method's table; the rows ahead don't take it -/
theorem vx_catch {own name : String} {E : String} {ce : Cell} {q : Addr} (hown : s.vm.findClass own = some m.cls) (pre : List ExceptionTableEntry) (x : ExceptionTableEntry) (suf : List ExceptionTableEntry) (hsplit : c.exceptionTable.toList = pre ++ x :: suf)
    (hpass : ∀ z ∈ pre, covers z pc = false ∨ (z.catchType ≠ 0 ∧ ∃ nm : String, (Cond.classLink own z.catchType nm).before args s = true ∧ va_Nc E nm s)) (hx : covers x pc = true) (h0 : x.catchType ≠ 0)
    (hlink : (Cond.classLink own x.catchType name).before args s = true) (hcast : (Cond.castable E name).before args s = true) (hcell : H[q]? = some ce) (hv : ce.vm = .none) (hcl : s.vm.findClass E = some ce.cls)
    (kk : W p l e R s m args below meth c H locs cells slots Q (F0 m x.handlerPc ls [.ref q])) : vx_W p l e R s m args below meth c H locs cells slots Q (F0 m pc ls rest) q := by
  intro T hT X
  have hpl : e.platform.magicAccessors = ({} : Platform).magicAccessors := by rw [X.admits.platform]
  obtain ⟨c3, c4, hc3, hc4, hasg⟩ := Cond.castable_spec hcast
  cases Option.some.inj (hc3.symm.trans hcl)
  obtain ⟨c5, hc5, hcl5⟩ := Cond.classLink_spec hown hlink e.platform hpl
  cases Option.some.inj (hc4.symm.trans hc5)
  obtain ⟨vm', X', st⟩ := X.thenCaughtThrough q (g := F0 m pc ls rest) rfl (Steps.refl _) (by rw [hT]; exact hcell) (by rw [hv]; rfl) (by obtain ⟨k9, h9, -⟩ := Vm.findClass_spec hcl; exact ⟨k9, h9⟩) pre x suf hsplit
    (fun z hz => by
      rcases hpass z hz with h | ⟨hz0, nm, hl1, hn1⟩
      · exact Or.inl h
      · obtain ⟨c6, hc6, hcl6⟩ := Cond.classLink_spec hown hl1 e.platform hpl
        obtain ⟨a8, b8, h1, h2, h3⟩ := hn1
        cases Option.some.inj (h1.symm.trans hcl)
        cases Option.some.inj (h2.symm.trans hc6)
        exact Or.inr ⟨hz0, _, hcl6, h3⟩) hx (Or.inr ⟨h0, c4, hcl5, hasg⟩)
  obtain ⟨t, a1, b1⟩ := kk (T.setVm vm') hT X'
  exact ⟨t, st.trans a1, b1⟩
end Rows
section Ends
variable {p : Program} {l : Launch} {e : Env} {R : Room} {s : State} {m : MethodId} {args : Array Value} {below : List Frame} {meth : Method} {c : Code} {H : Heap} {locs : List Loc} {cells slots : Nat} {Q : State → Prop}
variable {mc ms : Nat} {free : Addr → Prop} {A0 A1 : Nat → Prop} {H0 : Heap} {a : Array Value} {ls : Array Slot} {st0 rest : List Value}
variable {Qc : Array Value → State → Outcome → State → Prop} {XC : String → State → State → Prop}
/-- what a body that may throw owes at its end -/
def vx_MQ (below : List Frame) (Qc : Array Value → State → Outcome → State → Prop) (XC : String → State → State → Prop) (a : Array Value) (s : State) (mc ms : Nat) (free : Addr → Prop) : State → Prop := fun t =>
  ∃ o, t.status = .running ∧ Ended t below o ∧ vx_Q Qc XC mc ms free a s o t
theorem vx_ret {g : JFrame} {mc ms : Nat} (k : W p l e R s m args below meth c H locs cells slots (MQ below Qc args s mc ms free) g) : W p l e R s m args below meth c H locs cells slots (vx_MQ below Qc XC args s mc ms free) g := by
  intro T hT X
  obtain ⟨t, a1, o, b1, b2, b3, b4⟩ := k T hT X
  exact ⟨t, a1, o, b1, b2, Or.inl ⟨b3, b4⟩⟩
/-- not caught here: it goes on to the caller -/
theorem vx_widen {g : JFrame} {q : Addr} {k n : Nat} (h1 : cells ≤ k) (h2 : slots ≤ n) (kk : vx_W p l e R s m args below meth c H locs k n Q g q) : vx_W p l e R s m args below meth c H locs cells slots Q g q := fun T hT X => kk T hT (stand_widen X h1 h2)
theorem vx_out {pc : Nat} {E : String} {ce : Cell} {q : Addr} {mc ms : Nat} (hout : ∀ x ∈ c.exceptionTable.toList, covers x pc = false) (hlocks : meth.locks = false) (hcell : H[q]? = some ce) (hv : ce.vm = .none) (hcl : s.vm.findClass E = some ce.cls)
    (hx : ∀ t : State, t.heap = H → s.vm.Alike t.vm → XC E s t) (hf : ∀ z ∈ locs, free z.base) (hc : cells ≤ mc) (hs : slots ≤ ms) :
    vx_W p l e R s m args below meth c H locs cells slots (vx_MQ below Qc XC args s mc ms free) (F0 m pc ls rest) q := by
  intro T hT X
  obtain ⟨st1, hrun, hend, hW, hsm⟩ := X.leaveThrown q (g := F0 m pc ls rest) rfl rfl rfl hout hlocks
  have hcell9 : (T.setFrames (.throwing q :: below)).heap[q]? = some ce := by
    show T.heap[q]? = some ce
    rw [hT]; exact hcell
  exact ⟨_, st1, .threw q, hrun, hend, Or.inr ⟨q, rfl, E, ce, locs, hx _ hT hW.alike, hcell9, hv, hcl, hW, hsm.mono hc hs, hf⟩⟩
theorem vx_frame {U : State} {k n : Nat} (h : s.sameButNew ({ U with vm := s.vm } : State) locs k n) : s.heap.size ≤ U.heap.size ∧ ∀ q : Nat, q < s.heap.size → (∀ z ∈ locs, z.base ≠ q) → U.heap[q]? = s.heap[q]? := by
  obtain ⟨-, h2, -, -, -, h6⟩ := h
  refine ⟨h2, fun q hq hz => ?_⟩
  obtain ⟨c9, e1, e2, e3, e4⟩ := h6 q _ (Array.getElem?_eq_getElem hq)
  have hs : c9.slots = (s.heap[q]).slots := Array.ext_getElem? fun i => e4 i fun hm => hz _ hm rfl
  have h9 : c9 = s.heap[q] := by
    rw [hs] at e2
    exact e2
  have e5 : U.heap[q]? = some c9 := e1
  rw [e5, h9, Array.getElem?_eq_getElem hq]
/-- the words of a throw but the four that speak of the heap -/
def vx_no (w : Cond) : Bool := decide (w ≠ .isRef (.static Bundle.tN "UNASSIGNED_STACK" Bundle.steD)) && decide (w ≠ .isRef (.static Bundle.tN "SUPPRESSED_SENTINEL" Bundle.listD)) && decide (w ≠ .laysStatic Bundle.tN "UNASSIGNED_STACK" Bundle.steD) && decide (w ≠ .laysStatic Bundle.tN "SUPPRESSED_SENTINEL" Bundle.listD)
def vx_at0 (own : String) (ic : Nat) (X : String) (names : List String) : List Cond := (Bundle.ownAtoms0 own ic X names).filter vx_no
def vx_atS (own : String) (ic : Nat) (X : String) (names : List String) : List Cond := (Bundle.ownAtoms own ic X names).filter vx_no
/-- a word that the tables alone decide, or a good one -/
def vx_ot (w : Cond) : Bool := w.onTables || goodWord w
theorem vx_ot_at {args a' : Array Value} {s U : State} {w : Cond} (hW : s.WarmedH U.vm) (hvm : s.vm = U.vm) (hg : vx_ot w = true) (h : w.before args s = true) : w.before a' U = true := by
  simp only [vx_ot, Bool.or_eq_true] at hg
  rcases hg with hg | hg
  · exact va_tabs hg hvm h
  · exact word_at hW (good_of_word hg) h
/-- a list's words: the good ones out of the method's own list, the others by premises of their own -/
theorem vx_hat {args : Array Value} {s : State} {L B : List Cond} (h1 : ∀ w ∈ L.filter goodWord, w.before args s = true) (h2 : ∀ w ∈ L.filter (fun w => !goodWord w), w ∈ B) (h3 : ∀ w ∈ B, w.before args s = true) : ∀ w ∈ L, w.before args s = true := by
  intro w hw
  by_cases g : goodWord w = true
  · exact h1 w (List.mem_filter.mpr ⟨hw, g⟩)
  · refine h3 w (h2 w (List.mem_filter.mpr ⟨hw, ?_⟩))
    show (!goodWord w) = true
    cases hgw : goodWord w
    · rfl
    · exact absurd hgw g
theorem vx_c {args : Array Value} {s : State} {w : Cond} {B : List Cond} (h : w.before args s = true) (t : ∀ w ∈ B, w.before args s = true) : ∀ w' ∈ w :: B, w'.before args s = true := fun w' h' => (List.mem_cons.mp h').elim (fun e => by rw [e]; exact h) (t w')
theorem vx_n {args : Array Value} {s : State} : ∀ w ∈ ([] : List Cond), w.before args s = true := fun _ h => nomatch h
theorem vx_own {args : Array Value} {s : State} {L : List Cond} (h1 : ∀ w ∈ L.filter vx_no, w.before args s = true)
    (hU : (Cond.isRef (.static Bundle.tN "UNASSIGNED_STACK" Bundle.steD)).before args s = true) (hN : (Cond.isRef (.static Bundle.tN "SUPPRESSED_SENTINEL" Bundle.listD)).before args s = true)
    (lU : (Cond.laysStatic Bundle.tN "UNASSIGNED_STACK" Bundle.steD).before args s = true) (lN : (Cond.laysStatic Bundle.tN "SUPPRESSED_SENTINEL" Bundle.listD).before args s = true) : ∀ w ∈ L, w.before args s = true := by
  intro w hw
  by_cases e1 : w = .isRef (.static Bundle.tN "UNASSIGNED_STACK" Bundle.steD)
  · rw [e1]; exact hU
  · by_cases e2 : w = .isRef (.static Bundle.tN "SUPPRESSED_SENTINEL" Bundle.listD)
    · rw [e2]; exact hN
    · by_cases e3 : w = .laysStatic Bundle.tN "UNASSIGNED_STACK" Bundle.steD
      · rw [e3]; exact lU
      · by_cases e4 : w = .laysStatic Bundle.tN "SUPPRESSED_SENTINEL" Bundle.listD
        · rw [e4]; exact lN
        · exact h1 w (List.mem_filter.mpr ⟨hw, by unfold vx_no; rw [decide_eq_true e1, decide_eq_true e2, decide_eq_true e3, decide_eq_true e4]; rfl⟩)
/-- where a static field lies, its class's statics cell in H -/
def vx_L (C n d : String) (A : Nat → Prop) (U : State) (H : Heap) : Prop := ∃ (c : ClassId) (k : Class) (i : Nat) (f : Field) (a : Nat) (cell : Cell), U.vm.findClass C = some c ∧ U.fieldFound? C n d = some (c, k, i, f) ∧ f.isStatic = true ∧ k.statics = some a ∧ H[a]? = some cell ∧ cell.vm.isStatics = true ∧ cell.cls = c ∧ f.slot < cell.slots.size ∧ k.staticTypes[f.slot]? = some f.type ∧ ¬ A a
theorem vx_L.moved {C n d : String} {A : Nat → Prop} {u U : State} {H : Heap} (hvm : u.vm.Alike U.vm) (h : vx_L C n d A u H) : vx_L C n d A U H := by
  obtain ⟨c, k, i, f, a, cell, h1, h2, h3, h4, h5, h6, h7, h8, h9, h10⟩ := h
  obtain ⟨k', hi', he⟩ := State.fieldFound?_setVm hvm h2
  exact ⟨c, k', i, f, a, cell, by rw [hvm.findClass]; exact h1, hi', h3, by rw [he]; exact h4, h5, h6, h7, h8, by rw [he]; exact h9, h10⟩
theorem vx_L.kept {C n d : String} {A : Nat → Prop} {U : State} {H H1 : Heap} (h : vx_L C n d A U H) (hq : ∀ a : Nat, a < H.size → ¬ A a → H1[a]? = H[a]?) : vx_L C n d A U H1 := by
  obtain ⟨c, k, i, f, a, cell, h1, h2, h3, h4, h5, h6, h7, h8, h9, h10⟩ := h
  exact ⟨c, k, i, f, a, cell, h1, h2, h3, h4, by rw [hq a (Array.getElem?_eq_some_iff.mp h5).1 h10]; exact h5, h6, h7, h8, h9, h10⟩
theorem vx_L.narrow {C n d : String} {A B : Nat → Prop} {U : State} {H : Heap} (h : vx_L C n d A U H) (hAB : ∀ q, B q → A q) : vx_L C n d B U H := by
  obtain ⟨c, k, i, f, a, cell, h1, h2, h3, h4, h5, h6, h7, h8, h9, h10⟩ := h
  exact ⟨c, k, i, f, a, cell, h1, h2, h3, h4, h5, h6, h7, h8, h9, fun z => h10 (hAB _ z)⟩
theorem vx_L.word {C n d : String} {A : Nat → Prop} {s : State} {args : Array Value} (h : vx_L C n d A s s.heap) : (Cond.laysStatic C n d).before args s = true := by
  obtain ⟨c, k, i, f, a, cell, h1, h2, h3, h4, h5, h6, h7, h8, h9, -⟩ := h
  show (Cond.laysStatic C n d).holds args s none s [] = true
  exact Cond.laysStatic_of h1 h2 h3 h4 h5 h6 h7 h8 h9
/-- .. and what it holds: null or some reference -/
def vx_Zq (C n d : String) (A : Nat → Prop) (U : State) (H : Heap) : Prop := va_Zq C n d A U H ∧ vx_L C n d A U H
theorem vx_Zq.moved {C n d : String} {A : Nat → Prop} {u U : State} {H : Heap} (hvm : u.vm.Alike U.vm) (h : vx_Zq C n d A u H) : vx_Zq C n d A U H := ⟨va_Zq.moved hvm h.1, vx_L.moved hvm h.2⟩
theorem vx_Zq.kept {C n d : String} {A : Nat → Prop} {U : State} {H H1 : Heap} (h : vx_Zq C n d A U H) (hq : ∀ a : Nat, a < H.size → ¬ A a → H1[a]? = H[a]?) : vx_Zq C n d A U H1 := ⟨va_Zq.kept h.1 hq, vx_L.kept h.2 hq⟩
theorem vx_Zq.narrow {C n d : String} {A B : Nat → Prop} {U : State} {H : Heap} (h : vx_Zq C n d A U H) (hAB : ∀ q, B q → A q) : vx_Zq C n d B U H := ⟨va_Zq.narrow h.1 hAB, vx_L.narrow h.2 hAB⟩
theorem vx_Zqof {args : Array Value} {s : State} {C n d : String} {A : Nat → Prop} (hl : (Cond.laysStatic C n d).before args s = true) (hini : (Cond.initialized C).before args s = true) (h : (Cond.isRef (.static C n d)).before args s = true) (hA : ∀ a : Nat, a < s.heap.size → ¬ A a) : vx_Zq C n d A s s.heap := by
  refine ⟨va_Zqof hl hini h hA, ?_⟩
  obtain ⟨c, k, i, f, a, cell, h1, h2, h3, h4, h5, h6, h7, h8, h9⟩ := Cond.laysStatic_spec hl
  exact ⟨c, k, i, f, a, cell, h1, h2, h3, h4, h5, h6, h7, h8, h9, hA a (Array.getElem?_eq_some_iff.mp h5).1⟩
theorem vx_isRef {C n d : String} {v : Value} {A : Nat → Prop} {s : State} {args : Array Value} (h : va_Z C n d v A s s.heap) (hv : v.isRef = true) : (Cond.isRef (.static C n d)).before args s = true := by
  obtain ⟨cf, kf, fi, f, a, cell, h1, h2, h3, h4, h5, h6, h7, -⟩ := h
  have he : (Term.static C n d).eval args s none [] s = some v := by
    simp [Term.eval, State.fieldNamed?, h1, h2, h4, h5, h6, h7]
  simp only [Cond.before, Cond.holds, Cond.value, he]
  cases v <;> simp_all [Value.isRef]
theorem vx_isRefq {C n d : String} {A : Nat → Prop} {s : State} {args : Array Value} (h : va_Zq C n d A s s.heap) : (Cond.isRef (.static C n d)).before args s = true := by
  rcases h with h | ⟨t, h⟩
  · exact vx_isRef h rfl
  · exact vx_isRef h rfl
/-- the same frame, seen from here: as if the method were called anew in this heap -/
theorem vx_rebase {T : State} (X : Stand p l e R s m args below meth c T locs cells slots) {R' : Room} (hf : R'.frames ≤ R.frames) (hl : R'.locals ≤ R.locals) (hc : cells + R'.cells ≤ R.cells) (hs : slots + R'.slots ≤ R.slots) :
    Stand p l e R' ((T.setVm s.vm).setFrames (.invoking m args :: below)) m args below meth c T [] 0 0 := by
  have htop : (T.setVm s.vm).topJava?.isSome := X.here.top
  have hF : ((T.setVm s.vm).setFrames (.invoking m args :: below)).frames = .invoking m args :: below := State.frames_setFrames _ (State.cur_lt_of_top htop)
  obtain ⟨g₀, hg0⟩ := Option.isSome_iff_exists.mp htop
  obtain ⟨r, hr⟩ := State.topJava?_eq_some.mp hg0
  have hl9 : e.platform.stackLimits (T.setVm s.vm).me = e.platform.stackLimits s.me := X.limits
  have hb9 : (T.setVm s.vm).me.stackBytes = s.me.stackBytes := X.bytes
  refine ⟨X.admits, X.cas, X.clock, hF, ?_, X.hears, X.method, X.code, X.here, X.tail, X.warmed, ?_, ?_, ?_⟩
  · have h := X.room
    have hU : ((T.setVm s.vm).setFrames (.invoking m args :: below)).localsInUse = s.localsInUse := by
      rw [State.localsInUse_invoking hF (meth := meth) (c := c) X.method X.code, State.localsInUse_invoking X.frames X.method X.code]
    simp only [State.hasRoom, Bool.and_eq_true, decide_eq_true_eq] at h ⊢
    obtain ⟨⟨⟨⟨h1, h2, h3, h4, h5, h6⟩, h7⟩, h8⟩, h9⟩ := h
    rw [X.frames, List.length_cons] at h2 h3
    have q1 := X.heapSize
    have q2 := X.used
    simp only [hF, hU, List.length_cons, State.stackLimits_setFrames, State.stackBytes_setFrames, hl9, hb9]
    refine ⟨⟨⟨⟨by omega, by omega, by omega, by omega, by omega, h6⟩, ?_⟩, ?_⟩, X.book⟩
    · show T.heap.size + R'.cells ≤ e.platform.maxCells
      omega
    · show T.slotsUsed + R'.slots ≤ e.platform.maxSlots
      omega
  · rw [State.stackLimits_setFrames]; rfl
  · rw [State.stackBytes_setFrames]; rfl
  · refine ⟨?_, Nat.le_refl _, Nat.le_refl _, ?_, ?_, fun a c9 h9 => ⟨c9, h9, rfl, rfl, fun _ _ => rfl⟩⟩
    · obtain ⟨t, ht, -⟩ := State.frames_cons hr
      show T.setVm s.vm = { ((T.setVm s.vm).setFrames (.invoking m args :: below)).setFrames (T.setVm s.vm).frames with heap := T.heap, slotsUsed := T.slotsUsed }
      rw [State.setFrames_setFrames, State.setFrames_self ht]
      rfl
    · show T.slotsUsed = T.slotsUsed + ((T.heap.toList.drop T.heap.size).map (·.slots.size)).sum
      rw [List.drop_eq_nil_of_le (Nat.le_of_eq Array.length_toList)]
      rfl
    · show ((T.heap.toList.drop T.heap.size).map (·.slots.size)).sum ≤ 0
      rw [List.drop_eq_nil_of_le (Nat.le_of_eq Array.length_toList)]
      exact Nat.le_refl _
/-- 'throw new E()': new; dup; invokespecial; athrow -/
theorem vx_throw0 {cc : ByteArray} {pc : Nat} (hexec : p.tables.exec = Jvm.exec) (hb : c.code = cc) (hl : l.stackTraces = false) {own cls : String} {names : List String} {ik ic mc ms : Nat} {A : Nat → Prop}
    (hown : s.vm.findClass own = some m.cls) (hcls : Bundle.fit cls = true) (hnames : ∀ n ∈ names, Bundle.fit n = true)
    (hk : (Cond.classLink own ik cls).before args s = true) (hini : (Cond.initialized cls).before args s = true) (hat : ∀ w ∈ vx_at0 own ic cls names, w.before args s = true)
    (hgood : ∀ w ∈ Cond.classLink own ik cls :: Cond.initialized cls :: vx_at0 own ic cls names, vx_ot w = true)
    (hU : vx_Zq Bundle.tN "UNASSIGNED_STACK" Bundle.steD A s s.heap) (hN : vx_Zq Bundle.tN "SUPPRESSED_SENTINEL" Bundle.listD A s s.heap) (hS : va_S A s.heap H locs) (hsize : ls.size = c.maxLocals)
    (d0 : decode cc pc = .ok (.new ik, 3)) (d3 : decode cc (pc + 3) = .ok (.dup, 1)) (d4 : decode cc (pc + 4) = .ok (.invokespecial ic, 3)) (d7 : decode cc (pc + 7) = .ok (.athrow, 1))
    (hout : ∀ x ∈ c.exceptionTable.toList, covers x (pc + 7) = false)
    (hRframes : names.length + 3 < R.frames) (hRlocals : (rest.map fun v => v.category).sum + (13 * (names.length + 1) + 42) ≤ R.locals) (hRcells : cells + 1 ≤ R.cells) (hRslots : slots + 6 ≤ R.slots) (hlocks : meth.locks = false)
    (hx : ∀ t : State, s.vm.Alike t.vm → H.size ≤ t.heap.size → (∀ q : Nat, q < H.size → t.heap[q]? = H[q]?) → XC cls s t)
    (hf : ∀ z ∈ locs, free z.base) (hc : cells + 1 ≤ mc) (hs : slots + 6 ≤ ms) :
    W p l e R s m args below meth c H locs cells slots (vx_MQ below Qc XC args s mc ms free) (F0 m pc ls rest) := by
  intro T hT X
  have htr : e.platform.stackTraces = false := (show e.platform.stackTraces = l.stackTraces by rw [X.admits.platform]).trans hl
  have Y := vx_rebase X (R' := { frames := R.frames, locals := R.locals, cells := 1, slots := 6 }) (Nat.le_refl _) (Nat.le_refl _) hRcells hRslots
  obtain ⟨s', hA⟩ : ∃ z, z = (T.setVm s.vm).setFrames (.invoking m args :: below) := ⟨_, rfl⟩
  rw [← hA] at Y
  have hvm : s'.vm = s.vm := by rw [hA]; rfl
  have hhp : s'.heap = H := by rw [hA]; exact hT
  have hW0 : s.WarmedH s'.vm := by rw [hvm]; exact State.WarmedH.refl s
  have hat' : ∀ w ∈ vx_at0 own ic cls names, w.before args s' = true := fun w hw => vx_ot_at hW0 hvm.symm (hgood w (List.mem_cons_of_mem _ (List.mem_cons_of_mem _ hw))) (hat w hw)
  have hk' : (Cond.classLink own ik cls).before args s' = true := vx_ot_at hW0 hvm.symm (hgood _ List.mem_cons_self) hk
  have hini' : (Cond.initialized cls).before args s' = true := vx_ot_at hW0 hvm.symm (hgood _ (List.mem_cons_of_mem _ List.mem_cons_self)) hini
  have hU' : vx_Zq Bundle.tN "UNASSIGNED_STACK" Bundle.steD A s' s'.heap := by rw [hhp]; exact vx_Zq.moved hW0.alike (hU.kept hS.2.1)
  have hN' : vx_Zq Bundle.tN "SUPPRESSED_SENTINEL" Bundle.listD A s' s'.heap := by rw [hhp]; exact vx_Zq.moved hW0.alike (hN.kept hS.2.1)
  have h : ∀ w ∈ Bundle.ownAtoms0 own ic cls names, w.before args s' = true := vx_own hat' (vx_isRefq hU'.1) (vx_isRefq hN'.1) hU'.2.word hN'.2.word
  have hown' : s'.vm.findClass own = some m.cls := by rw [hvm]; exact hown
  have hins : (Cond.instantiable cls 6).before args s' = true := h _ (by simp [Bundle.ownAtoms0])
  obtain ⟨vm₁, cX, kX, hfX, hkX, -, -, X₁, st1⟩ := Y.newCold hexec (own := own) (C := cls) (index := ik) (n := 6) hown' hk' hins hini'
    (g := F0 m pc ls rest) rfl (by rw [hb]; exact d0) (Nat.le_refl _) (Nat.le_refl _)
  generalize hT1 : (T.setVm vm₁).pushCell { cls := cX, slots := kX.instanceTypes.map defaultValue, vm := .none } = T1 at X₁ st1
  have hcat : (Value.ref T.heap.size).category = 1 := rfl
  have hcellA : T1.heap[T.heap.size]? = some (freshCell cX kX) := by rw [← hT1]; exact State.heap_pushCell_size _ _
  have d3' : decode c.code (pc + 3) = .ok (.dup, 1) := by rw [hb]; exact d3
  obtain ⟨U, hsteps, hrun, hend, hW, hsame, ce, hce, hO⟩ := X₁.ctorThrow0 hexec htr (own := own) (cls := cls) (names := names) (ic := ic) hown' hcls hnames h (fun x hx => nomatch hx) hfX hkX hcellA (by rw [hhp, hT]; exact Nat.le_refl _)
    (g := { method := m, pc := pc + 4, locals := ls, stack := .ref T.heap.size :: .ref T.heap.size :: rest, locked := none }) rfl hsize rfl rfl (rest := rest) rfl
    (by rw [hb]; exact d4) (by rw [hb]; exact d7) hout hRframes (by simp only [List.map_cons, List.sum_cons, hcat]; omega) hlocks
  obtain ⟨f1, f2⟩ := vx_frame hsame
  rw [hhp] at f1 f2
  have hWs : s.WarmedH U.vm := State.WarmedH.trans hW0 hW
  have hcl : s.vm.findClass cls = some ce.cls := by
    have h9 := hO.cls
    rw [hvm] at h9
    exact h9
  have hall : s.sameButNew ({ U with vm := s.vm } : State) locs mc ms := by
    subst hA
    obtain ⟨e1, e2⟩ := hsame
    rw [State.setFrames_setFrames] at e1
    have h2 : (T.setVm s.vm).sameButNew ({ U with vm := s.vm } : State) [] (0 + 1) (0 + 6) := ⟨e1, e2⟩
    have h3 := X.same.trans h2
    rw [List.append_nil] at h3
    exact h3.mono hc hs
  refine ⟨U, ?_, .threw T.heap.size, hrun, hend, Or.inr ⟨T.heap.size, rfl, cls, ce, locs, hx U hWs.alike f1 (fun q hq => f2 q hq (fun z hz => nomatch hz)), hce, hO.vm, hcl, hWs, hall, hf⟩⟩
  refine st1 _ ?_
  show Steps p.tables e below (T1.setTop { method := m, pc := pc + 3, locals := ls, stack := .ref T.heap.size :: rest, locked := none }) _
  jvm_step X₁.here [X₁.here.top, hexec, d3', Value.category]
  exact hsteps
/-- 'throw new E("text")': new; dup; ldc; invokespecial; athrow -/
theorem vx_throwS {cc : ByteArray} {pc : Nat} (hexec : p.tables.exec = Jvm.exec) (hb : c.code = cc) (hl : l.stackTraces = false) {own cls text : String} {names : List String} {ik is ic mc ms sa : Nat} {A : Nat → Prop}
    (hown : s.vm.findClass own = some m.cls) (hcls : Bundle.fit cls = true) (hnames : ∀ n ∈ names, Bundle.fit n = true)
    (hk : (Cond.classLink own ik cls).before args s = true) (hini : (Cond.initialized cls).before args s = true) (hstr : vk_R own is text sa s) (hat : ∀ w ∈ vx_atS own ic cls names, w.before args s = true)
    (hgood : ∀ w ∈ Cond.classLink own ik cls :: Cond.initialized cls :: vx_atS own ic cls names, vx_ot w = true)
    (hU : vx_Zq Bundle.tN "UNASSIGNED_STACK" Bundle.steD A s s.heap) (hN : vx_Zq Bundle.tN "SUPPRESSED_SENTINEL" Bundle.listD A s s.heap) (hS : va_S A s.heap H locs) (hsize : ls.size = c.maxLocals)
    (d0 : decode cc pc = .ok (.new ik, 3)) (d3 : decode cc (pc + 3) = .ok (.dup, 1)) (d4 : decode cc (pc + 4) = .ok (.ldc is, 2)) (d6 : decode cc (pc + 6) = .ok (.invokespecial ic, 3)) (d9 : decode cc (pc + 9) = .ok (.athrow, 1))
    (hout : ∀ x ∈ c.exceptionTable.toList, covers x (pc + 9) = false)
    (hRframes : names.length + 3 < R.frames) (hRlocals : (rest.map fun v => v.category).sum + (13 * (names.length + 1) + 43) ≤ R.locals) (hRcells : cells + 1 ≤ R.cells) (hRslots : slots + 6 ≤ R.slots) (hlocks : meth.locks = false)
    (hx : ∀ t : State, s.vm.Alike t.vm → H.size ≤ t.heap.size → (∀ q : Nat, q < H.size → t.heap[q]? = H[q]?) → XC cls s t)
    (hf : ∀ z ∈ locs, free z.base) (hc : cells + 1 ≤ mc) (hs : slots + 6 ≤ ms) :
    W p l e R s m args below meth c H locs cells slots (vx_MQ below Qc XC args s mc ms free) (F0 m pc ls rest) := by
  intro T hT X
  have htr : e.platform.stackTraces = false := (show e.platform.stackTraces = l.stackTraces by rw [X.admits.platform]).trans hl
  have Y := vx_rebase X (R' := { frames := R.frames, locals := R.locals, cells := 1, slots := 6 }) (Nat.le_refl _) (Nat.le_refl _) hRcells hRslots
  obtain ⟨s', hA⟩ : ∃ z, z = (T.setVm s.vm).setFrames (.invoking m args :: below) := ⟨_, rfl⟩
  rw [← hA] at Y
  have hvm : s'.vm = s.vm := by rw [hA]; rfl
  have hhp : s'.heap = H := by rw [hA]; exact hT
  have hW0 : s.WarmedH s'.vm := by rw [hvm]; exact State.WarmedH.refl s
  have hat' : ∀ w ∈ vx_atS own ic cls names, w.before args s' = true := fun w hw => vx_ot_at hW0 hvm.symm (hgood w (List.mem_cons_of_mem _ (List.mem_cons_of_mem _ hw))) (hat w hw)
  have hk' : (Cond.classLink own ik cls).before args s' = true := vx_ot_at hW0 hvm.symm (hgood _ List.mem_cons_self) hk
  have hini' : (Cond.initialized cls).before args s' = true := vx_ot_at hW0 hvm.symm (hgood _ (List.mem_cons_of_mem _ List.mem_cons_self)) hini
  have hU' : vx_Zq Bundle.tN "UNASSIGNED_STACK" Bundle.steD A s' s'.heap := by rw [hhp]; exact vx_Zq.moved hW0.alike (hU.kept hS.2.1)
  have hN' : vx_Zq Bundle.tN "SUPPRESSED_SENTINEL" Bundle.listD A s' s'.heap := by rw [hhp]; exact vx_Zq.moved hW0.alike (hN.kept hS.2.1)
  have h : ∀ w ∈ Bundle.ownAtoms own ic cls names, w.before args s' = true := vx_own hat' (vx_isRefq hU'.1) (vx_isRefq hN'.1) hU'.2.word hN'.2.word
  have hown' : s'.vm.findClass own = some m.cls := by rw [hvm]; exact hown
  have hins : (Cond.instantiable cls 6).before args s' = true := h _ (by simp [Bundle.ownAtoms])
  obtain ⟨vm₁, cX, kX, hfX, hkX, -, -, X₁, st1⟩ := Y.newCold hexec (own := own) (C := cls) (index := ik) (n := 6) hown' hk' hins hini'
    (g := F0 m pc ls rest) rfl (by rw [hb]; exact d0) (Nat.le_refl _) (Nat.le_refl _)
  generalize hT1 : (T.setVm vm₁).pushCell { cls := cX, slots := kX.instanceTypes.map defaultValue, vm := .none } = T1 at X₁ st1
  have hcat : (Value.ref T.heap.size).category = 1 := rfl
  have hcellA : T1.heap[T.heap.size]? = some (freshCell cX kX) := by rw [← hT1]; exact State.heap_pushCell_size _ _
  have d3' : decode c.code (pc + 3) = .ok (.dup, 1) := by rw [hb]; exact d3
  have d4' : decode c.code (pc + 4) = .ok (.ldc is, 2) := by rw [hb]; exact d4
  have hstr' : vk_R own is text sa s' := vk_R.warm hW0 hstr
  obtain ⟨U, hsteps, hrun, hend, hW, hsame, ce, hce, hO⟩ := X₁.ctorThrowS hexec htr (own := own) (cls := cls) (names := names) (ic := ic) hown' hcls hnames h (fun x hx => nomatch hx) hfX hkX hcellA (by rw [hhp, hT]; exact Nat.le_refl _) (msg := .ref sa) rfl
    (g := { method := m, pc := pc + 6, locals := ls, stack := .ref sa :: .ref T.heap.size :: .ref T.heap.size :: rest, locked := none }) rfl hsize rfl rfl (rest := rest) rfl
    (by rw [hb]; exact d6) (by rw [hb]; exact d9) hout hRframes (by simp only [List.map_cons, List.sum_cons, hcat]; omega) hlocks
  obtain ⟨f1, f2⟩ := vx_frame hsame
  rw [hhp] at f1 f2
  have hWs : s.WarmedH U.vm := State.WarmedH.trans hW0 hW
  have hcl : s.vm.findClass cls = some ce.cls := by
    have h9 := hO.cls
    rw [hvm] at h9
    exact h9
  have hall : s.sameButNew ({ U with vm := s.vm } : State) locs mc ms := by
    subst hA
    obtain ⟨e1, e2⟩ := hsame
    rw [State.setFrames_setFrames] at e1
    have h2 : (T.setVm s.vm).sameButNew ({ U with vm := s.vm } : State) [] (0 + 1) (0 + 6) := ⟨e1, e2⟩
    have h3 := X.same.trans h2
    rw [List.append_nil] at h3
    exact h3.mono hc hs
  refine ⟨U, ?_, .threw T.heap.size, hrun, hend, Or.inr ⟨T.heap.size, rfl, cls, ce, locs, hx U hWs.alike f1 (fun q hq => f2 q hq (fun z hz => nomatch hz)), hce, hO.vm, hcl, hWs, hall, hf⟩⟩
  refine st1 _ ?_
  show Steps p.tables e below (T1.setTop { method := m, pc := pc + 3, locals := ls, stack := .ref T.heap.size :: rest, locked := none }) _
  jvm_step X₁.here [X₁.here.top, hexec, d3', Value.category]
  exact X₁.ldcString hexec (own := own) (text := text) (index := is) (a := sa) hown' hstr'.1 hstr'.2
    (g := { method := m, pc := pc + 4, locals := ls, stack := .ref T.heap.size :: .ref T.heap.size :: rest, locked := none }) rfl d4' _ hsteps
/-- 'throw new E("text")', the text by a wide index -/
theorem vx_throwSW {cc : ByteArray} {pc : Nat} (hexec : p.tables.exec = Jvm.exec) (hb : c.code = cc) (hl : l.stackTraces = false) {own cls text : String} {names : List String} {ik is ic mc ms sa : Nat} {A : Nat → Prop}
    (hown : s.vm.findClass own = some m.cls) (hcls : Bundle.fit cls = true) (hnames : ∀ n ∈ names, Bundle.fit n = true)
    (hk : (Cond.classLink own ik cls).before args s = true) (hini : (Cond.initialized cls).before args s = true) (hstr : vk_R own is text sa s) (hat : ∀ w ∈ vx_atS own ic cls names, w.before args s = true)
    (hgood : ∀ w ∈ Cond.classLink own ik cls :: Cond.initialized cls :: vx_atS own ic cls names, vx_ot w = true)
    (hU : vx_Zq Bundle.tN "UNASSIGNED_STACK" Bundle.steD A s s.heap) (hN : vx_Zq Bundle.tN "SUPPRESSED_SENTINEL" Bundle.listD A s s.heap) (hS : va_S A s.heap H locs) (hsize : ls.size = c.maxLocals)
    (d0 : decode cc pc = .ok (.new ik, 3)) (d3 : decode cc (pc + 3) = .ok (.dup, 1)) (d4 : decode cc (pc + 4) = .ok (.ldc_w is, 3)) (d7 : decode cc (pc + 7) = .ok (.invokespecial ic, 3)) (d10 : decode cc (pc + 10) = .ok (.athrow, 1))
    (hout : ∀ x ∈ c.exceptionTable.toList, covers x (pc + 10) = false)
    (hRframes : names.length + 3 < R.frames) (hRlocals : (rest.map fun v => v.category).sum + (13 * (names.length + 1) + 43) ≤ R.locals) (hRcells : cells + 1 ≤ R.cells) (hRslots : slots + 6 ≤ R.slots) (hlocks : meth.locks = false)
    (hx : ∀ t : State, s.vm.Alike t.vm → H.size ≤ t.heap.size → (∀ q : Nat, q < H.size → t.heap[q]? = H[q]?) → XC cls s t)
    (hf : ∀ z ∈ locs, free z.base) (hc : cells + 1 ≤ mc) (hs : slots + 6 ≤ ms) :
    W p l e R s m args below meth c H locs cells slots (vx_MQ below Qc XC args s mc ms free) (F0 m pc ls rest) := by
  intro T hT X
  have htr : e.platform.stackTraces = false := (show e.platform.stackTraces = l.stackTraces by rw [X.admits.platform]).trans hl
  have Y := vx_rebase X (R' := { frames := R.frames, locals := R.locals, cells := 1, slots := 6 }) (Nat.le_refl _) (Nat.le_refl _) hRcells hRslots
  obtain ⟨s', hA⟩ : ∃ z, z = (T.setVm s.vm).setFrames (.invoking m args :: below) := ⟨_, rfl⟩
  rw [← hA] at Y
  have hvm : s'.vm = s.vm := by rw [hA]; rfl
  have hhp : s'.heap = H := by rw [hA]; exact hT
  have hW0 : s.WarmedH s'.vm := by rw [hvm]; exact State.WarmedH.refl s
  have hat' : ∀ w ∈ vx_atS own ic cls names, w.before args s' = true := fun w hw => vx_ot_at hW0 hvm.symm (hgood w (List.mem_cons_of_mem _ (List.mem_cons_of_mem _ hw))) (hat w hw)
  have hk' : (Cond.classLink own ik cls).before args s' = true := vx_ot_at hW0 hvm.symm (hgood _ List.mem_cons_self) hk
  have hini' : (Cond.initialized cls).before args s' = true := vx_ot_at hW0 hvm.symm (hgood _ (List.mem_cons_of_mem _ List.mem_cons_self)) hini
  have hU' : vx_Zq Bundle.tN "UNASSIGNED_STACK" Bundle.steD A s' s'.heap := by rw [hhp]; exact vx_Zq.moved hW0.alike (hU.kept hS.2.1)
  have hN' : vx_Zq Bundle.tN "SUPPRESSED_SENTINEL" Bundle.listD A s' s'.heap := by rw [hhp]; exact vx_Zq.moved hW0.alike (hN.kept hS.2.1)
  have h : ∀ w ∈ Bundle.ownAtoms own ic cls names, w.before args s' = true := vx_own hat' (vx_isRefq hU'.1) (vx_isRefq hN'.1) hU'.2.word hN'.2.word
  have hown' : s'.vm.findClass own = some m.cls := by rw [hvm]; exact hown
  have hins : (Cond.instantiable cls 6).before args s' = true := h _ (by simp [Bundle.ownAtoms])
  obtain ⟨vm₁, cX, kX, hfX, hkX, -, -, X₁, st1⟩ := Y.newCold hexec (own := own) (C := cls) (index := ik) (n := 6) hown' hk' hins hini'
    (g := F0 m pc ls rest) rfl (by rw [hb]; exact d0) (Nat.le_refl _) (Nat.le_refl _)
  generalize hT1 : (T.setVm vm₁).pushCell { cls := cX, slots := kX.instanceTypes.map defaultValue, vm := .none } = T1 at X₁ st1
  have hcat : (Value.ref T.heap.size).category = 1 := rfl
  have hcellA : T1.heap[T.heap.size]? = some (freshCell cX kX) := by rw [← hT1]; exact State.heap_pushCell_size _ _
  have d3' : decode c.code (pc + 3) = .ok (.dup, 1) := by rw [hb]; exact d3
  have d4' : decode c.code (pc + 4) = .ok (.ldc_w is, 3) := by rw [hb]; exact d4
  have hstr' : vk_R own is text sa s' := vk_R.warm hW0 hstr
  obtain ⟨U, hsteps, hrun, hend, hW, hsame, ce, hce, hO⟩ := X₁.ctorThrowS hexec htr (own := own) (cls := cls) (names := names) (ic := ic) hown' hcls hnames h (fun x hx => nomatch hx) hfX hkX hcellA (by rw [hhp, hT]; exact Nat.le_refl _) (msg := .ref sa) rfl
    (g := { method := m, pc := pc + 7, locals := ls, stack := .ref sa :: .ref T.heap.size :: .ref T.heap.size :: rest, locked := none }) rfl hsize rfl rfl (rest := rest) rfl
    (by rw [hb]; exact d7) (by rw [hb]; exact d10) hout hRframes (by simp only [List.map_cons, List.sum_cons, hcat]; omega) hlocks
  obtain ⟨f1, f2⟩ := vx_frame hsame
  rw [hhp] at f1 f2
  have hWs : s.WarmedH U.vm := State.WarmedH.trans hW0 hW
  have hcl : s.vm.findClass cls = some ce.cls := by
    have h9 := hO.cls
    rw [hvm] at h9
    exact h9
  have hall : s.sameButNew ({ U with vm := s.vm } : State) locs mc ms := by
    subst hA
    obtain ⟨e1, e2⟩ := hsame
    rw [State.setFrames_setFrames] at e1
    have h2 : (T.setVm s.vm).sameButNew ({ U with vm := s.vm } : State) [] (0 + 1) (0 + 6) := ⟨e1, e2⟩
    have h3 := X.same.trans h2
    rw [List.append_nil] at h3
    exact h3.mono hc hs
  refine ⟨U, ?_, .threw T.heap.size, hrun, hend, Or.inr ⟨T.heap.size, rfl, cls, ce, locs, hx U hWs.alike f1 (fun q hq => f2 q hq (fun z hz => nomatch hz)), hce, hO.vm, hcl, hWs, hall, hf⟩⟩
  refine st1 _ ?_
  show Steps p.tables e below (T1.setTop { method := m, pc := pc + 3, locals := ls, stack := .ref T.heap.size :: rest, locked := none }) _
  jvm_step X₁.here [X₁.here.top, hexec, d3', Value.category]
  exact X₁.ldcStringW hexec (own := own) (text := text) (index := is) (a := sa) hown' hstr'.1 hstr'.2
    (g := { method := m, pc := pc + 4, locals := ls, stack := .ref T.heap.size :: .ref T.heap.size :: rest, locked := none }) rfl d4' _ hsteps
end Ends
section Bodies
variable {l : Launch}
theorem vx_ofW {y : MethodName} {ws ws' : List Cond} {rm : Room} {Pc : Array Value → State → Prop} {Qc : Array Value → State → Outcome → State → Prop} {XC : String → State → State → Prop} {mc ms : Nat} {free : Addr → Prop} {cc : ByteArray} {maxL : Nat} {ret : Option FieldType}
    (hy : plainName y.cls = true) (hw : ws = Cond.code y cc maxL ret :: ws')
    (body : ∀ p e s m args below meth c s₁, BodyLoose p l y (headSpec ws rm) cc maxL ret e s m args below meth c s₁ → c.maxLocals = maxL → (∀ x ∈ c.exceptionTable.toList, False) → Pc args s →
      W p l e (headSpec ws rm).room s m args below meth c s.heap [] 0 0 (vx_MQ below Qc XC args s mc ms free) (entryFrame m args maxL)) : vx_Met l y ws rm Pc Qc XC mc ms free := by
  refine MetFree.of_bodyS (code := cc) (maxLocals := maxL) (ret := ret) hy ?_ ?_
  · intro args s m h hn
    obtain ⟨meth, c, h1, h2, h3, h4, h5, h6, -, -⟩ := Cond.code_spec hn (atoms_spec (ws := ws) h _ (by rw [hw]; exact List.mem_cons_self))
    exact ⟨meth, c, h1, h2, h3, h4, h5, h6⟩
  · intro p e s m args below meth c s₁ B hml hP _
    have hh0 : s₁.heap = s.heap := by rw [B.state]; rfl
    have ht : ∀ x ∈ c.exceptionTable.toList, False := by
      obtain ⟨meth9, c9, h1, h2, -, -, -, -, h7, -⟩ := Cond.code_spec B.named (atoms_spec (ws := ws) B.pre _ (by rw [hw]; exact List.mem_cons_self))
      cases Option.some.inj (h1.symm.trans B.method)
      cases Option.some.inj (h2.symm.trans (Stand.of_body B).code)
      intro x hx
      rw [Array.isEmpty_iff.mp h7] at hx
      cases hx
    obtain ⟨t, a1, o, b1, b2, b3⟩ := body p e s m args below meth c s₁ B hml ht hP s₁ hh0 (Stand.of_body B)
    exact ⟨t, o, a1, b1, b2, b3⟩
/-- the table of a body with handlers -/
theorem vx_table {p : Program} {x y : MethodName} {S : Spec} {cc bytes : ByteArray} {maxL maxL' : Nat} {ret ret' : Option FieldType} {e : Env} {s s₁ : State} {m : MethodId} {args : Array Value} {below : List Frame} {meth : Method} {c : Code} {hh : List (Nat × Nat × Nat × Nat)}
    (B : BodyLoose p l y S cc maxL ret e s m args below meth c s₁) (h : (Cond.codeWith y bytes maxL' ret' hh).before args s = true) : c.exceptionTable.toList = tableOf hh := by
  obtain ⟨m9, meth9, c9, hn9, h1, h2, -, -, h6, -⟩ := Cond.codeWith_spec h
  cases Option.some.inj (hn9.symm.trans B.named)
  cases Option.some.inj (h1.symm.trans B.method)
  cases Option.some.inj (h2.symm.trans (Stand.of_body B).code)
  rw [← h6, table_eq]
end Bodies
end VXA
/-! ===== END ===== -/
/-! ===== BEGIN a static call of a method with an exception table ===== -/
section VXS
variable {p : Program} {l : Launch} {e : Env} {R : Room} {s : State} {m : MethodId} {args : Array Value} {below : List Frame} {meth : Method} {c : Code} {T : State} {H : Heap} {locs : List Loc} {cells slots : Nat}
abbrev vx_CSW (R : Room) (s : State) (args : Array Value) (own : String) (index : Nat) (y : MethodName) (bytes : ByteArray) (maxL : Nat) (ret : Option FieldType) (hh : List (Nat × Nat × Nat × Nat)) (ws : List Cond) (rm : Room) (mc ms n : Nat) : Prop :=
  (rm.cells = mc ∧ rm.slots = ms ∧ rm.frames + 1 ≤ R.frames ∧ 8 + (maxL + 11) + rm.locals ≤ R.locals ∧ (∀ w ∈ ws, ∀ (a' : Array Value) (U : State), s.WarmedH U.vm → w.before a' U = true) ∧ Cond.codeWith y bytes maxL ret hh ∈ ws) ∧
  (Cond.codeWith y bytes maxL ret hh).before args s = true ∧ (Cond.initialized y.cls).before args s = true ∧ (y.cls ≠ "java/lang/invoke/MethodHandle" ∧ y.cls ≠ "java/lang/invoke/VarHandle") ∧
  (∀ sig, parseMethodDescriptor y.desc = some sig → n = sig.parameters.length) ∧ (Cond.methodLink own index y).before args s = true ∧ (Cond.static y).before args s = true
theorem vx_cwSW {own : String} {index maxL mc ms : Nat} {y : MethodName} {bytes : ByteArray} {ret : Option FieldType} {hh : List (Nat × Nat × Nat × Nat)} {Ts ws ws' : List Cond} {rm : Room} (n : Nat) (ht : ∀ w ∈ Ts, w.before args s = true) (hT : GoodIn Ts (va_wsS own index y ws)) (hw : ws = Cond.codeWith y bytes maxL ret hh :: ws') (hrc : rm.cells = mc) (hrs : rm.slots = ms)
    (hd : y.cls ≠ "java/lang/invoke/MethodHandle" ∧ y.cls ≠ "java/lang/invoke/VarHandle" ∧ (parseMethodDescriptor y.desc).map (fun d => d.parameters.length) = some n) (hR : rm.frames + 1 ≤ R.frames ∧ 8 + (maxL + 11) + rm.locals ≤ R.locals) :
    vx_CSW R s args own index y bytes maxL ret hh ws rm mc ms n := by
  have ok : ∀ w ∈ va_wsS own index y ws, w.before args s = true := fun w h => ht w (hT w h).1
  have hG : GoodIn Ts ws := fun w h => hT w (by unfold va_wsS; exact List.mem_append_right _ h)
  have hc : Cond.codeWith y bytes maxL ret hh ∈ ws := by rw [hw]; exact List.mem_cons_self
  refine ⟨⟨hrc, hrs, hR.1, hR.2, pay_in ht hG, hc⟩, ht _ (hG _ hc).1, ok _ (by simp [va_wsS]), ⟨hd.1, hd.2.1⟩, fun sig h => ?_, ok _ (by simp [va_wsS]), ok _ (by simp [va_wsS])⟩
  have h2 := hd.2.2
  rw [h] at h2
  exact (Option.some.inj h2).symm
theorem vx_callSW (X : Stand p l e R s m args below meth c T locs cells slots) (hexec : p.tables.exec = Jvm.exec) {own : String} {index : Nat} {y : MethodName} {bytes : ByteArray} {maxL : Nat} {ret : Option FieldType} {hh : List (Nat × Nat × Nat × Nat)}
    (hown : s.vm.findClass own = some m.cls) (hlink : (Cond.methodLink own index y).before args s = true) (hstat : (Cond.static y).before args s = true) (hinit : (Cond.initialized y.cls).before args s = true)
    (hcode : (Cond.codeWith y bytes maxL ret hh).before args s = true) (hy : y.cls ≠ "java/lang/invoke/MethodHandle" ∧ y.cls ≠ "java/lang/invoke/VarHandle")
    {W9 : Nat} {Pre : Pt → Array Value → Prop} {Post : Pt → Array Value → Option Value → Pt → Prop} (hK : Back l R p e below s args y 3 W9 Pre Post)
    {g : JFrame} (hg : g.method = m) (hsize : g.locals.size = c.maxLocals) {argsL rest : List Value} (hlen : ∀ sig, parseMethodDescriptor y.desc = some sig → argsL.length = sig.parameters.length)
    (hstack : g.stack = argsL.reverse ++ rest) (hW : 2 * g.monitorRoom + (rest.map fun v => v.category).sum ≤ W9) (hdg : decode c.code g.pc = .ok (.invokestatic index, 3))
    (hpre : ∀ vm₁, s.WarmedH vm₁ → Pre ⟨T.setVm vm₁, locs, cells, slots⟩ argsL.toArray) :
    ∃ (v : Option Value) (vm₁ : Vm) (B : Pt), s.WarmedH vm₁ ∧ Stand p l e R s m args below meth c B.U B.locs B.cells B.slots ∧ Post ⟨T.setVm vm₁, locs, cells, slots⟩ argsL.toArray v B ∧
      ∀ target, Steps p.tables e below (B.U.setTop { g with pc := g.pc + 3, stack := v.toList ++ rest }) target → Steps p.tables e below (T.setTop g) target := by
  obtain ⟨mk, methM, cM, hnamed, hmethM, -, -, -, -, -, -, hsigM⟩ := Cond.codeWith_spec hcode
  have hstatic : methM.isStatic = true := Cond.static_spec hnamed hmethM hstat
  obtain ⟨kP, hkP, -⟩ := className_of_methodNamed hnamed
  have hinitP : kP.init = .initialized := Cond.initialized_spec (findClass_of_methodNamed hnamed) hkP hinit
  obtain ⟨vm₁, X₁, hstep₁⟩ := X.invokestatic hexec hown hlink hnamed hmethM hstatic hkP hinitP hy (g := g) hg (argsL := argsL) (rest := rest) (hlen _ hsigM) hstack hdg
  obtain ⟨v, B, X', hpost, hsteps⟩ := hK m meth c ⟨T.setVm vm₁, locs, cells, slots⟩ { g with stack := rest } (.invokestatic index) mk argsL.toArray X₁ hg hsize hdg hW (X₁.named hnamed) (hpre vm₁ X₁.warmed)
  exact ⟨v, vm₁, B, X₁.warmed, X', hpost, fun target h => hstep₁ _ fun acts => by rw [doInvoke_state]; exact hsteps.trans h⟩
theorem vx_runSW {y : MethodName} {bytes cc : ByteArray} {maxL nL mc ms n index : Nat} {ret : Option FieldType} {hh : List (Nat × Nat × Nat × Nat)} {ws : List Cond} {rm : Room} {Pc : Array Value → State → Prop} {Qc : Array Value → State → Outcome → State → Prop} {free : Addr → Prop} {Ts : List Cond} {own : String} {As rest : List Value} {g : JFrame}
    (S : CallFix p m c cc nL s args Ts own) (hM : Met l y ws rm Pc Qc mc ms free) (cw : vx_CSW R s args own index y bytes maxL ret hh ws rm mc ms n) (hp : PreS s H Pc As)
    (hg : g.method = m) (hn : As.length = n) (hsize : g.locals.size = nL) (hstack : g.stack = As.reverse ++ rest) (hW : 2 * g.monitorRoom + (rest.map fun v => v.category).sum ≤ 8) (hdg : decode cc g.pc = .ok (.invokestatic index, 3)) (hf : cells + mc ≤ R.cells ∧ slots + ms ≤ R.slots) :
    va_Run p l e R s m args below meth c H locs cells slots mc ms g rest (Qc As.toArray) (free) := by
  obtain ⟨⟨hrc, hrs, hfr, hlo, hws, hcw⟩, hcode, hini, hy, hlen, hl, hstt⟩ := cw
  have hK : Back l R p e below s args y 3 8 (PreOf R mc ms Pc) (PostOf Qc mc ms free) := va_backW (hh := hh) (bytes := bytes) (maxL := maxL) (ret := ret) hM hp.1 hrc hrs hfr hlo hws hcw (fun a' U hW => word_at hW (Or.inl (by first | rfl | simp [Cond.onTables, Cond.keeps, Cond.steady])) hini)
  obtain ⟨hx, hb, hml, ho, -⟩ := S
  intro T hT X
  obtain ⟨v, vm₁, ⟨U', l2, c2, s2⟩, hW₁, X', ⟨g', mk, t, L, e1, e2, hq, h1, hL, h2, h3⟩, st⟩ := vx_callSW X hx (hh := hh) (bytes := bytes) (maxL := maxL) (ret := ret) ho hl hstt hini hcode hy hK hg (hsize.trans hml.symm) (argsL := As) (rest := rest) (fun sig h => hn.trans (hlen sig h)) hstack hW (by rw [hb]; exact hdg)
    (fun vm₁ hW₁ => ⟨hf.1, hf.2, hp.2 (T.setVm vm₁) hT hW₁⟩)
  dsimp only [Pt.U, Pt.locs, Pt.cells, Pt.slots] at X' e1 e2 h1 h2 h3 st
  subst h1; subst h2; subst h3
  exact ⟨v, (T.setVm vm₁).calling g' mk As.toArray, t, U', L, hT, X', hL, e1, e2, hq, st⟩
/-- not caught here, past rows that name other classes: it goes on to the caller -/
theorem vx_outP {p : Program} {l : Launch} {e : Env} {R : Room} {s : State} {m : MethodId} {args : Array Value} {below : List Frame} {meth : Method} {c : Code} {H : Heap} {locs : List Loc} {cells slots : Nat} {free : Addr → Prop} {ls : Array Slot} {rest : List Value} {Qc : Array Value → State → Outcome → State → Prop} {XC : String → State → State → Prop}
    {pc : Nat} {own E : String} {ce : Cell} {q : Addr} {mc ms : Nat} (hown : s.vm.findClass own = some m.cls) (hlocks : meth.locks = false)
    (hpass : ∀ z ∈ c.exceptionTable.toList, covers z pc = false ∨ (z.catchType ≠ 0 ∧ ∃ nm : String, (Cond.classLink own z.catchType nm).before args s = true ∧ va_Nc E nm s)) (hcell : H[q]? = some ce) (hv : ce.vm = .none) (hcl : s.vm.findClass E = some ce.cls)
    (hx : ∀ t : State, t.heap = H → s.vm.Alike t.vm → XC E s t) (hf : ∀ z ∈ locs, free z.base) (hc : cells ≤ mc) (hs : slots ≤ ms) :
    vx_W p l e R s m args below meth c H locs cells slots (vx_MQ below Qc XC args s mc ms free) (F0 m pc ls rest) q := by
  intro T hT X
  have hpl : e.platform.magicAccessors = ({} : Platform).magicAccessors := by rw [X.admits.platform]
  obtain ⟨vm', hW', X', st⟩ := X.outThrough hlocks q (g := F0 m pc ls rest) rfl rfl rfl (cell := ce) (by rw [hT]; exact hcell) (by rw [hv]; rfl)
    (by obtain ⟨k9, h9, -⟩ := Vm.findClass_spec hcl; exact ⟨k9, h9⟩) (fun z hz => by
      rcases hpass z hz with h | ⟨hz0, nm, hl1, hn1⟩
      · exact Or.inl h
      · obtain ⟨c6, hc6, hcl6⟩ := Cond.classLink_spec hown hl1 e.platform hpl
        obtain ⟨a8, b8, h1, h2, h3⟩ := hn1
        cases Option.some.inj (h1.symm.trans hcl)
        cases Option.some.inj (h2.symm.trans hc6)
        exact Or.inr ⟨hz0, _, hcl6, h3⟩)
  obtain ⟨g₀, hfr⟩ := X'.frames_eq
  have hcell9 : ((T.setVm vm').setFrames (.throwing q :: below)).heap[q]? = some ce := by
    show T.heap[q]? = some ce
    rw [hT]; exact hcell
  have hend : Ended ((T.setVm vm').setFrames (.throwing q :: below)) below (.threw q) := State.frames_setFrames _ (State.cur_lt_of_frames hfr)
  refine ⟨(T.setVm vm').setFrames (.throwing q :: below), ?_, .threw q, X'.here.running, hend, Or.inr ⟨q, rfl, E, ce, locs, hx _ hT (X'.ends _).1.alike, hcell9, hv, hcl, (X'.ends _).1, (X'.ends _).2.mono hc hs, hf⟩⟩
  rw [X.pushThrowing_eq]
  exact st
/-- a thing of a world lies in the heap -/
theorem vx_lt {D : va_G} {cl : List vw_C} {ws : va_W} {H1 : Heap} (h : va_P D cl ws H1) {k : Nat} {q : Nat × va_E} (hk : ws[k]? = some q) : q.1 < H1.size := (h k q hk).lt
end VXS
/-! ===== END ===== -/
/-! ===== BEGIN methods with a table of their own: called by a name, returning or throwing ===== -/
section VXH
/-! vx_backW, vx_callVX, vx_callSX, vx_callVW, vx_runVW, vx_runVX, vx_runSX, vx_ofWH follow the same proofs as their sisters above (Free/Laws.lean, Shelf42/LK1.lean); vx_outP calls Shelf42/NT130.lean (outThrough). -/
section
variable {l : Launch} {R : Room} {p : Program} {e : Env} {below : List Frame} {s : State} {sargs : Array Value} {y : MethodName} {len W9 : Nat}
theorem vx_backW {ws : List Cond} {rm : Room} {Pc : Array Value → State → Prop} {Qc : Array Value → State → Outcome → State → Prop} {XC : String → State → State → Prop} {mc ms : Nat} {free : Addr → Prop} {bytes : ByteArray} {maxL : Nat} {ret : Option FieldType} {hh : List (Nat × Nat × Nat × Nat)}
    (hM : vx_Met l y ws rm Pc Qc XC mc ms free) (hblind : FrameBlind Pc) (hrc : rm.cells = mc) (hrs : rm.slots = ms)
    (hframes : rm.frames + 1 ≤ R.frames) (hlocals : W9 + (maxL + 11) + rm.locals ≤ R.locals)
    (hws : ∀ w ∈ ws, ∀ a' U, s.WarmedH U.vm → w.before a' U = true) (hcode : Cond.codeWith y bytes maxL ret hh ∈ ws) (hinit : ∀ a' U, s.WarmedH U.vm → (Cond.initialized y.cls).before a' U = true) :
    vx_Back l R p e below s sargs y len W9 (PreOf R mc ms Pc) (PostOf Qc mc ms free) (vx_Post XC mc ms free) := by
  intro m meth c A g ig mk a X hg hsize hdg hW hn hp
  have h1 : (headSpec ws rm).pre.before a A.U = true := atoms_intro fun w hw => hws w hw _ _ X.warmed
  have h2 : (Cond.codeWith y bytes maxL ret hh).before a A.U = true := hws _ hcode _ _ X.warmed
  have h3 : (Cond.initialized y.cls).before a A.U = true := hinit _ _ X.warmed
  have h4 : A.cells + (headSpec ws rm).room.cells ≤ R.cells := by rw [show (headSpec ws rm).room.cells = mc from hrc]; exact hp.1
  have h5 : A.slots + (headSpec ws rm).room.slots ≤ R.slots := by rw [show (headSpec ws rm).room.slots = ms from hrs]; exact hp.2.1
  have hPc : Pc a (A.U.calling g mk a) := hblind _ _ _ _ hp.2.2
  obtain ⟨U, Ls, c0, s0⟩ := A
  dsimp only [Pt.U, Pt.locs, Pt.cells, Pt.slots] at h1 h2 h3 h4 h5 X hn hPc ⊢
  obtain ⟨m9, methY, cY, hn9, hmY, hcY, -, hlY, -⟩ := Cond.codeWith_spec h2
  cases Option.some.inj (hn9.symm.trans hn)
  obtain ⟨kY, hkY, -⟩ := className_of_methodNamed hn
  have hinitY : kY.init = .initialized := Cond.initialized_spec (findClass_of_methodNamed hn) hkY h3
  have h : At U g.method c below := by rw [hg]; exact X.here
  have hlocals9 : W9 + (maxL + 11) + (headSpec ws rm).room.locals ≤ R.locals := hlocals
  have happ : (headSpec ws rm).appliesLoose y e.platform (U.calling g mk a) = true :=
    Spec.appliesLoose_calling (g := g) h hdg hn hkY hinitY
      (X.room_calling (g := g) (R' := (headSpec ws rm).room) hsize hmY hcY hframes (by rw [hlY]; omega) h4 h5) h1
  obtain ⟨mid, hmid⟩ := h.above
  have hfr : (U.setTop g).frames = (.java g :: mid) ++ below := by rw [State.frames_setTop' g h.top, hmid]; rfl
  obtain ⟨o, s₂, hsteps, -, hend, hq⟩ := Steps.callFree hM p X.admits X.cas X.clock (acts := []) hfr happ hPc trivial
  have hq' : vx_Q Qc XC mc ms free a (U.calling g mk a) o s₂ := hq
  rw [State.frames_setTop' g h.top] at hend
  obtain ⟨g₀, hg0⟩ := Option.isSome_iff_exists.mp h.top
  obtain ⟨r, hr⟩ := State.topJava?_eq_some.mp hg0
  have hr' : (({ U with heap := s₂.heap, slotsUsed := s₂.slotsUsed } : State).setVm s₂.vm).frames = .java g₀ :: r := hr
  rcases hq' with ⟨hqc, L, hfe, hL⟩ | ⟨q, rfl, E, ce, L, hx, hce, hcv, hcl, hW₂, hsm, hL⟩
  · obtain ⟨⟨v, rfl⟩, hW₂, e2, q2, q3, q4, q5, q6⟩ := id hfe
    have e3 : s₂ = ({ (U.calling g mk a).setFrames s₂.frames with heap := s₂.heap, slotsUsed := s₂.slotsUsed } : State).setVm s₂.vm := by
      have : s₂ = ({ s₂ with vm := (U.calling g mk a).vm } : State).setVm s₂.vm := rfl
      rw [e2] at this
      exact this
    obtain ⟨c₂, i₂, len₂, hc₂, hd₂, hf₂⟩ := hend
    have hW' : U.WarmedH s₂.vm := hW₂
    have hcc : c₂ = c := by
      have h1 : s₂.code? g.method = U.code? g.method := by
        rw [State.code?_eq, State.code?_eq, hW'.alike.method?]
      exact Option.some.inj (hc₂.symm.trans (h1.trans h.code))
    subst hcc
    have hlen : len₂ = len := by rw [hdg] at hd₂; cases hd₂; rfl
    subst hlen
    have hs₂ : s₂ = (({ U with heap := s₂.heap, slotsUsed := s₂.slotsUsed } : State).setVm s₂.vm).setTop { g with pc := g.pc + len₂, stack := v.toList ++ g.stack } := by
      refine e3.trans ?_
      rw [hf₂, State.calling_eq h.top, State.setFrames_setFrames, State.setTop_of_frames _ hr', hr]
      rfl
    have hsame : U.sameButNew ({ U with heap := s₂.heap, slotsUsed := s₂.slotsUsed } : State) L mc ms := by
      refine ⟨?_, q2, q3, q4, q5, q6⟩
      obtain ⟨t, ht, -⟩ := State.frames_cons hr
      show ({ U with heap := s₂.heap, slotsUsed := s₂.slotsUsed } : State) = { U.setFrames U.frames with heap := s₂.heap, slotsUsed := s₂.slotsUsed }
      rw [State.setFrames_self ht]
    subst hg
    refine Or.inl ⟨v, ⟨(({ U with heap := s₂.heap, slotsUsed := s₂.slotsUsed } : State).setVm s₂.vm), Ls ++ L, c0 + mc, s0 + ms⟩,
      ⟨X.admits, X.cas, X.clock, X.frames, X.room, X.hears, X.method, X.code, (X.here.setHeapUsed s₂.heap s₂.slotsUsed).setVm hW'.alike, X.tail, State.WarmedH.trans X.warmed hW', X.limits, X.bytes, X.same.trans (hsame.setVm s.vm)⟩,
      ⟨g, mk, s₂, L, rfl, rfl, hqc, rfl, hL, rfl, rfl⟩, ?_⟩
    show Steps p.tables e below _ ((({ U with heap := s₂.heap, slotsUsed := s₂.slotsUsed } : State).setVm s₂.vm).setTop { g with pc := g.pc + len₂, stack := v.toList ++ g.stack })
    rw [← hs₂]
    exact hsteps
  · obtain ⟨e2, q2, q3, q4, q5, q6⟩ := id hsm
    have e3 : s₂ = ({ (U.calling g mk a).setFrames s₂.frames with heap := s₂.heap, slotsUsed := s₂.slotsUsed } : State).setVm s₂.vm := by
      have : s₂ = ({ s₂ with vm := (U.calling g mk a).vm } : State).setVm s₂.vm := rfl
      rw [e2] at this
      exact this
    have hf₂ : s₂.frames = .throwing q :: .java g :: U.frames.tail := hend
    have hW' : U.WarmedH s₂.vm := hW₂
    have hs₂ : s₂ = ((({ U with heap := s₂.heap, slotsUsed := s₂.slotsUsed } : State).setVm s₂.vm).setTop g).pushFrame (.throwing q) := by
      refine e3.trans ?_
      rw [hf₂, State.calling_eq h.top, State.setFrames_setFrames, State.pushFrame, State.frames_setTop _ hr', State.setTop_of_frames _ hr', State.setFrames_setFrames, hr]
      rfl
    have hsame : U.sameButNew ({ U with heap := s₂.heap, slotsUsed := s₂.slotsUsed } : State) L mc ms := by
      refine ⟨?_, q2, q3, q4, q5, q6⟩
      obtain ⟨t, ht, -⟩ := State.frames_cons hr
      show ({ U with heap := s₂.heap, slotsUsed := s₂.slotsUsed } : State) = { U.setFrames U.frames with heap := s₂.heap, slotsUsed := s₂.slotsUsed }
      rw [State.setFrames_self ht]
    subst hg
    refine Or.inr ⟨q, ⟨(({ U with heap := s₂.heap, slotsUsed := s₂.slotsUsed } : State).setVm s₂.vm), Ls ++ L, c0 + mc, s0 + ms⟩,
      ⟨X.admits, X.cas, X.clock, X.frames, X.room, X.hears, X.method, X.code, (X.here.setHeapUsed s₂.heap s₂.slotsUsed).setVm hW'.alike, X.tail, State.WarmedH.trans X.warmed hW', X.limits, X.bytes, X.same.trans (hsame.setVm s.vm)⟩,
      ⟨g, mk, s₂, L, E, ce, rfl, rfl, hx, hce, hcv, hcl, rfl, hL, rfl, rfl⟩, ?_⟩
    show Steps p.tables e below _ (((({ U with heap := s₂.heap, slotsUsed := s₂.slotsUsed } : State).setVm s₂.vm).setTop g).pushFrame (.throwing q))
    rw [← hs₂]
    exact hsteps
end
variable {p : Program} {l : Launch} {e : Env} {R : Room} {s : State} {m : MethodId} {args : Array Value} {below : List Frame} {meth : Method} {c : Code} {T : State} {H : Heap} {locs : List Loc} {cells slots : Nat}
theorem vx_callVX (X : Stand p l e R s m args below meth c T locs cells slots) (hexec : p.tables.exec = Jvm.exec) {own C : String} {index : Nat} {y : MethodName} {bytes : ByteArray} {maxL : Nat} {ret : Option FieldType} {hh : List (Nat × Nat × Nat × Nat)}
    (hown : s.vm.findClass own = some m.cls) (hlink : (Cond.methodLink own index y).before args s = true) (hinst : (Cond.instanceMethod y).before args s = true) (hsel : (Cond.selects C y y).before args s = true)
    (hcode : (Cond.codeWith y bytes maxL ret hh).before args s = true) (hy : y.cls ≠ "java/lang/invoke/MethodHandle" ∧ y.cls ≠ "java/lang/invoke/VarHandle")
    {W9 : Nat} {Pre : Pt → Array Value → Prop} {Post : Pt → Array Value → Option Value → Pt → Prop} {PostX : Pt → Array Value → Addr → Pt → Prop} (hK : vx_Back l R p e below s args y 3 W9 Pre Post PostX)
    {b : Addr} {cellB : Cell} (hcell : T.heap[b]? = some cellB) (hobj : cellB.vm.isStatics = false) (hcls : s.vm.findClass C = some cellB.cls)
    {g : JFrame} (hg : g.method = m) (hsize : g.locals.size = c.maxLocals) {argsL rest : List Value} (hlen : ∀ sig, parseMethodDescriptor y.desc = some sig → argsL.length = sig.parameters.length)
    (hstack : g.stack = argsL.reverse ++ .ref b :: rest) (hW : 2 * g.monitorRoom + (rest.map fun v => v.category).sum ≤ W9) (hdg : decode c.code g.pc = .ok (.invokevirtual index, 3))
    (hpre : ∀ vm₁, s.WarmedH vm₁ → Pre ⟨T.setVm vm₁, locs, cells, slots⟩ (Value.ref b :: argsL).toArray) :
    (∃ (v : Option Value) (vm₁ : Vm) (B : Pt), s.WarmedH vm₁ ∧ Stand p l e R s m args below meth c B.U B.locs B.cells B.slots ∧ Post ⟨T.setVm vm₁, locs, cells, slots⟩ (Value.ref b :: argsL).toArray v B ∧
      ∀ target, Steps p.tables e below (B.U.setTop { g with pc := g.pc + 3, stack := v.toList ++ rest }) target → Steps p.tables e below (T.setTop g) target) ∨
    (∃ (q : Addr) (vm₁ : Vm) (B : Pt), s.WarmedH vm₁ ∧ Stand p l e R s m args below meth c B.U B.locs B.cells B.slots ∧ PostX ⟨T.setVm vm₁, locs, cells, slots⟩ (Value.ref b :: argsL).toArray q B ∧
      Steps p.tables e below (T.setTop g) ((B.U.setTop { g with stack := rest }).pushFrame (.throwing q))) := by
  obtain ⟨mk, methM, hnamed, hmethM, hstM, habM⟩ := Cond.instanceMethod_spec hinst
  obtain ⟨m8, methM', cM, hn8, hmethM', -, -, -, -, -, -, hsigM⟩ := Cond.codeWith_spec hcode
  cases Option.some.inj (hn8.symm.trans hnamed)
  cases hmethM.symm.trans hmethM'
  obtain ⟨c2, r2, m2, q1, q2, q3, q4, kP, hkP, hkPi⟩ := Cond.selects_spec hsel
  cases hcls.symm.trans q1
  cases (State.methodFound?_of_named hnamed hy).symm.trans q2
  cases hnamed.symm.trans q3
  have hselP : selectMethod e.platform s.vm cellB.cls mk = .method mk := by rw [Launch.admits_selectMethod X.admits]; exact q4
  obtain ⟨vm₁, X₁, hstep₁⟩ := X.invokevirtual hexec hown hlink hnamed hmethM hstM hkP hkPi hy (a := b) (cell := cellB) hcell
    (fun z h => by rw [h] at hobj; cases hobj) hselP hmethM habM hkP hkPi (g := g) hg (argsL := argsL) (rest := rest) (hlen _ hsigM) hstack hdg
  rcases hK m meth c ⟨T.setVm vm₁, locs, cells, slots⟩ { g with stack := rest } (.invokevirtual index) mk (Value.ref b :: argsL).toArray X₁ hg hsize hdg hW (X₁.named hnamed) (hpre vm₁ X₁.warmed) with ⟨v, B, X', hpost, hsteps⟩ | ⟨q, B, X', hpost, hsteps⟩
  · exact Or.inl ⟨v, vm₁, B, X₁.warmed, X', hpost, fun target h => hstep₁ _ fun acts => by rw [doInvoke_state]; exact hsteps.trans h⟩
  · exact Or.inr ⟨q, vm₁, B, X₁.warmed, X', hpost, hstep₁ _ fun acts => by rw [doInvoke_state]; exact hsteps⟩
theorem vx_callSX (X : Stand p l e R s m args below meth c T locs cells slots) (hexec : p.tables.exec = Jvm.exec) {own : String} {index : Nat} {y : MethodName} {bytes : ByteArray} {maxL : Nat} {ret : Option FieldType} {hh : List (Nat × Nat × Nat × Nat)}
    (hown : s.vm.findClass own = some m.cls) (hlink : (Cond.methodLink own index y).before args s = true) (hstat : (Cond.static y).before args s = true) (hinit : (Cond.initialized y.cls).before args s = true)
    (hcode : (Cond.codeWith y bytes maxL ret hh).before args s = true) (hy : y.cls ≠ "java/lang/invoke/MethodHandle" ∧ y.cls ≠ "java/lang/invoke/VarHandle")
    {W9 : Nat} {Pre : Pt → Array Value → Prop} {Post : Pt → Array Value → Option Value → Pt → Prop} {PostX : Pt → Array Value → Addr → Pt → Prop} (hK : vx_Back l R p e below s args y 3 W9 Pre Post PostX)
    {g : JFrame} (hg : g.method = m) (hsize : g.locals.size = c.maxLocals) {argsL rest : List Value} (hlen : ∀ sig, parseMethodDescriptor y.desc = some sig → argsL.length = sig.parameters.length)
    (hstack : g.stack = argsL.reverse ++ rest) (hW : 2 * g.monitorRoom + (rest.map fun v => v.category).sum ≤ W9) (hdg : decode c.code g.pc = .ok (.invokestatic index, 3))
    (hpre : ∀ vm₁, s.WarmedH vm₁ → Pre ⟨T.setVm vm₁, locs, cells, slots⟩ argsL.toArray) :
    (∃ (v : Option Value) (vm₁ : Vm) (B : Pt), s.WarmedH vm₁ ∧ Stand p l e R s m args below meth c B.U B.locs B.cells B.slots ∧ Post ⟨T.setVm vm₁, locs, cells, slots⟩ argsL.toArray v B ∧
      ∀ target, Steps p.tables e below (B.U.setTop { g with pc := g.pc + 3, stack := v.toList ++ rest }) target → Steps p.tables e below (T.setTop g) target) ∨
    (∃ (q : Addr) (vm₁ : Vm) (B : Pt), s.WarmedH vm₁ ∧ Stand p l e R s m args below meth c B.U B.locs B.cells B.slots ∧ PostX ⟨T.setVm vm₁, locs, cells, slots⟩ argsL.toArray q B ∧
      Steps p.tables e below (T.setTop g) ((B.U.setTop { g with stack := rest }).pushFrame (.throwing q))) := by
  obtain ⟨mk, methM, cM, hnamed, hmethM, -, -, -, -, -, -, hsigM⟩ := Cond.codeWith_spec hcode
  have hstatic : methM.isStatic = true := Cond.static_spec hnamed hmethM hstat
  obtain ⟨kP, hkP, -⟩ := className_of_methodNamed hnamed
  have hinitP : kP.init = .initialized := Cond.initialized_spec (findClass_of_methodNamed hnamed) hkP hinit
  obtain ⟨vm₁, X₁, hstep₁⟩ := X.invokestatic hexec hown hlink hnamed hmethM hstatic hkP hinitP hy (g := g) hg (argsL := argsL) (rest := rest) (hlen _ hsigM) hstack hdg
  rcases hK m meth c ⟨T.setVm vm₁, locs, cells, slots⟩ { g with stack := rest } (.invokestatic index) mk argsL.toArray X₁ hg hsize hdg hW (X₁.named hnamed) (hpre vm₁ X₁.warmed) with ⟨v, B, X', hpost, hsteps⟩ | ⟨q, B, X', hpost, hsteps⟩
  · exact Or.inl ⟨v, vm₁, B, X₁.warmed, X', hpost, fun target h => hstep₁ _ fun acts => by rw [doInvoke_state]; exact hsteps.trans h⟩
  · exact Or.inr ⟨q, vm₁, B, X₁.warmed, X', hpost, hstep₁ _ fun acts => by rw [doInvoke_state]; exact hsteps⟩
theorem vx_callVW (X : Stand p l e R s m args below meth c T locs cells slots) (hexec : p.tables.exec = Jvm.exec) {own C : String} {index : Nat} {y : MethodName} {bytes : ByteArray} {maxL : Nat} {ret : Option FieldType} {hh : List (Nat × Nat × Nat × Nat)}
    (hown : s.vm.findClass own = some m.cls) (hlink : (Cond.methodLink own index y).before args s = true) (hinst : (Cond.instanceMethod y).before args s = true) (hsel : (Cond.selects C y y).before args s = true)
    (hcode : (Cond.codeWith y bytes maxL ret hh).before args s = true) (hy : y.cls ≠ "java/lang/invoke/MethodHandle" ∧ y.cls ≠ "java/lang/invoke/VarHandle")
    {W9 : Nat} {Pre : Pt → Array Value → Prop} {Post : Pt → Array Value → Option Value → Pt → Prop} (hK : Back l R p e below s args y 3 W9 Pre Post)
    {b : Addr} {cellB : Cell} (hcell : T.heap[b]? = some cellB) (hobj : cellB.vm.isStatics = false) (hcls : s.vm.findClass C = some cellB.cls)
    {g : JFrame} (hg : g.method = m) (hsize : g.locals.size = c.maxLocals) {argsL rest : List Value} (hlen : ∀ sig, parseMethodDescriptor y.desc = some sig → argsL.length = sig.parameters.length)
    (hstack : g.stack = argsL.reverse ++ .ref b :: rest) (hW : 2 * g.monitorRoom + (rest.map fun v => v.category).sum ≤ W9) (hdg : decode c.code g.pc = .ok (.invokevirtual index, 3))
    (hpre : ∀ vm₁, s.WarmedH vm₁ → Pre ⟨T.setVm vm₁, locs, cells, slots⟩ (Value.ref b :: argsL).toArray) :
    ∃ (v : Option Value) (vm₁ : Vm) (B : Pt), s.WarmedH vm₁ ∧ Stand p l e R s m args below meth c B.U B.locs B.cells B.slots ∧ Post ⟨T.setVm vm₁, locs, cells, slots⟩ (Value.ref b :: argsL).toArray v B ∧
      ∀ target, Steps p.tables e below (B.U.setTop { g with pc := g.pc + 3, stack := v.toList ++ rest }) target → Steps p.tables e below (T.setTop g) target := by
  obtain ⟨mk, methM, hnamed, hmethM, hstM, habM⟩ := Cond.instanceMethod_spec hinst
  obtain ⟨m8, methM', cM, hn8, hmethM', -, -, -, -, -, -, hsigM⟩ := Cond.codeWith_spec hcode
  cases Option.some.inj (hn8.symm.trans hnamed)
  cases hmethM.symm.trans hmethM'
  obtain ⟨c2, r2, m2, q1, q2, q3, q4, kP, hkP, hkPi⟩ := Cond.selects_spec hsel
  cases hcls.symm.trans q1
  cases (State.methodFound?_of_named hnamed hy).symm.trans q2
  cases hnamed.symm.trans q3
  have hselP : selectMethod e.platform s.vm cellB.cls mk = .method mk := by rw [Launch.admits_selectMethod X.admits]; exact q4
  obtain ⟨vm₁, X₁, hstep₁⟩ := X.invokevirtual hexec hown hlink hnamed hmethM hstM hkP hkPi hy (a := b) (cell := cellB) hcell
    (fun z h => by rw [h] at hobj; cases hobj) hselP hmethM habM hkP hkPi (g := g) hg (argsL := argsL) (rest := rest) (hlen _ hsigM) hstack hdg
  obtain ⟨v, B, X', hpost, hsteps⟩ := hK m meth c ⟨T.setVm vm₁, locs, cells, slots⟩ { g with stack := rest } (.invokevirtual index) mk (Value.ref b :: argsL).toArray X₁ hg hsize hdg hW (X₁.named hnamed) (hpre vm₁ X₁.warmed)
  exact ⟨v, vm₁, B, X₁.warmed, X', hpost, fun target h => hstep₁ _ fun acts => by rw [doInvoke_state]; exact hsteps.trans h⟩
abbrev vx_CVW (R : Room) (s : State) (args : Array Value) (own C : String) (index : Nat) (y : MethodName) (bytes : ByteArray) (maxL : Nat) (ret : Option FieldType) (hh : List (Nat × Nat × Nat × Nat)) (ws : List Cond) (rm : Room) (mc ms n : Nat) : Prop :=
  (rm.cells = mc ∧ rm.slots = ms ∧ rm.frames + 1 ≤ R.frames ∧ 8 + (maxL + 11) + rm.locals ≤ R.locals ∧ (∀ w ∈ ws, ∀ (a' : Array Value) (U : State), s.WarmedH U.vm → w.before a' U = true) ∧ Cond.codeWith y bytes maxL ret hh ∈ ws) ∧
  (Cond.codeWith y bytes maxL ret hh).before args s = true ∧ (Cond.initialized y.cls).before args s = true ∧ (y.cls ≠ "java/lang/invoke/MethodHandle" ∧ y.cls ≠ "java/lang/invoke/VarHandle") ∧
  (∀ sig, parseMethodDescriptor y.desc = some sig → n = sig.parameters.length) ∧ (Cond.methodLink own index y).before args s = true ∧ (Cond.instanceMethod y).before args s = true ∧ (Cond.selects C y y).before args s = true
theorem vx_cwVW {own C : String} {index maxL mc ms : Nat} {y : MethodName} {bytes : ByteArray} {ret : Option FieldType} {hh : List (Nat × Nat × Nat × Nat)} {Ts ws ws' : List Cond} {rm : Room} (n : Nat) (ht : ∀ w ∈ Ts, w.before args s = true) (hT : GoodIn Ts (wsV own index C y ws)) (hw : ws = Cond.codeWith y bytes maxL ret hh :: ws') (hrc : rm.cells = mc) (hrs : rm.slots = ms)
    (hd : y.cls = C ∧ y.cls ≠ "java/lang/invoke/MethodHandle" ∧ y.cls ≠ "java/lang/invoke/VarHandle" ∧ (parseMethodDescriptor y.desc).map (fun d => d.parameters.length) = some n) (hR : rm.frames + 1 ≤ R.frames ∧ 8 + (maxL + 11) + rm.locals ≤ R.locals) :
    vx_CVW R s args own C index y bytes maxL ret hh ws rm mc ms n := by
  obtain ⟨hC, hd⟩ := hd
  subst hC
  have ok : ∀ w ∈ wsV own index y.cls y ws, w.before args s = true := fun w h => ht w (hT w h).1
  have hG : GoodIn Ts ws := fun w h => hT w (by unfold wsV; exact List.mem_append_right _ h)
  have hc : Cond.codeWith y bytes maxL ret hh ∈ ws := by rw [hw]; exact List.mem_cons_self
  refine ⟨⟨hrc, hrs, hR.1, hR.2, pay_in ht hG, hc⟩, ht _ (hG _ hc).1, ok _ (by simp [wsV]), ⟨hd.1, hd.2.1⟩, fun sig h => ?_, ok _ (by simp [wsV]), ok _ (by simp [wsV]), ok _ (by simp [wsV])⟩
  have h2 := hd.2.2
  rw [h] at h2
  exact (Option.some.inj h2).symm
theorem vx_runVW {y : MethodName} {bytes cc : ByteArray} {maxL nL mc ms n index : Nat} {ret : Option FieldType} {hh : List (Nat × Nat × Nat × Nat)} {ws : List Cond} {rm : Room} {Pc : Array Value → State → Prop} {Qc : Array Value → State → Outcome → State → Prop} {free : Addr → Prop} {Ts : List Cond} {own C : String} {b : Addr} {As rest : List Value} {g : JFrame}
    (S : CallFix p m c cc nL s args Ts own) (hM : Met l y ws rm Pc Qc mc ms free) (cw : vx_CVW R s args own C index y bytes maxL ret hh ws rm mc ms n) (hp : PreV s H C b Pc As)
    (hg : g.method = m) (hn : As.length = n) (hsize : g.locals.size = nL) (hstack : g.stack = As.reverse ++ .ref b :: rest) (hW : 2 * g.monitorRoom + (rest.map fun v => v.category).sum ≤ 8) (hdg : decode cc g.pc = .ok (.invokevirtual index, 3)) (hf : cells + mc ≤ R.cells ∧ slots + ms ≤ R.slots) :
    va_Run p l e R s m args below meth c H locs cells slots mc ms g rest (Qc (Value.ref b :: As).toArray) free := by
  obtain ⟨⟨hrc, hrs, hfr, hlo, hws, hcw⟩, hcode, hini, hy, hlen, hl, hin, hse⟩ := cw
  have hK : Back l R p e below s args y 3 8 (PreOf R mc ms Pc) (PostOf Qc mc ms free) := va_backW (hh := hh) (bytes := bytes) (maxL := maxL) (ret := ret) hM hp.1 hrc hrs hfr hlo hws hcw (fun a' U hW => word_at hW (Or.inl (by first | rfl | simp [Cond.onTables, Cond.keeps, Cond.steady])) hini)
  obtain ⟨hx, hb, hml, ho, -⟩ := S
  obtain ⟨-, ⟨cellB, hcB, hoB, hclB⟩, hPc⟩ := hp
  intro T hT X
  obtain ⟨v, vm₁, ⟨U', l2, c2, s2⟩, hW₁, X', ⟨g', mk, t, L, e1, e2, hq, h1, hL, h2, h3⟩, st⟩ := vx_callVW X hx (C := C) (hh := hh) (bytes := bytes) (maxL := maxL) (ret := ret) ho hl hin hse hcode hy hK (by rw [hT]; exact hcB) hoB hclB hg (hsize.trans hml.symm) (argsL := As) (rest := rest) (fun sig h => hn.trans (hlen sig h)) hstack hW (by rw [hb]; exact hdg)
    (fun vm₁ hW₁ => ⟨hf.1, hf.2, hPc (T.setVm vm₁) hT hW₁⟩)
  dsimp only [Pt.U, Pt.locs, Pt.cells, Pt.slots] at X' e1 e2 h1 h2 h3 st
  subst h1; subst h2; subst h3
  exact ⟨v, (T.setVm vm₁).calling g' mk (Value.ref b :: As).toArray, t, U', L, hT, X', hL, e1, e2, hq, st⟩
section
variable {y : MethodName} {bytes cc : ByteArray} {maxL nL mc ms n index : Nat} {ret : Option FieldType} {ws : List Cond} {rm : Room} {Pc : Array Value → State → Prop} {Qc : Array Value → State → Outcome → State → Prop} {XC : String → State → State → Prop} {free : Addr → Prop} {Ts : List Cond} {own C : String} {b : Addr} {As rest : List Value} {g : JFrame}
theorem vx_runVX {hh : List (Nat × Nat × Nat × Nat)} (S : CallFix p m c cc nL s args Ts own) (hM : vx_Met l y ws rm Pc Qc XC mc ms free) (cw : vx_CVW R s args own C index y bytes maxL ret hh ws rm mc ms n) (hp : PreV s H C b Pc As)
    (hg : g.method = m) (hn : As.length = n) (hsize : g.locals.size = nL) (hstack : g.stack = As.reverse ++ .ref b :: rest) (hW : 2 * g.monitorRoom + (rest.map fun v => v.category).sum ≤ 8) (hdg : decode cc g.pc = .ok (.invokevirtual index, 3)) (hf : cells + mc ≤ R.cells ∧ slots + ms ≤ R.slots) :
    vx_Run p l e R s m args below meth c H locs cells slots mc ms g rest (Qc (Value.ref b :: As).toArray) XC free := by
  obtain ⟨⟨hrc, hrs, hfr, hlo, hws, hcw⟩, hcode, hini, hy, hlen, hl, hin, hse⟩ := cw
  have hK : vx_Back l R p e below s args y 3 8 (PreOf R mc ms Pc) (PostOf Qc mc ms free) (vx_Post XC mc ms free) := vx_backW (hh := hh) (bytes := bytes) (maxL := maxL) (ret := ret) hM hp.1 hrc hrs hfr hlo hws hcw (fun a' U hW => word_at hW (Or.inl (by first | rfl | simp [Cond.onTables, Cond.keeps, Cond.steady])) hini)
  obtain ⟨hx, hb, hml, ho, -⟩ := S
  obtain ⟨-, ⟨cellB, hcB, hoB, hclB⟩, hPc⟩ := hp
  intro T hT X
  rcases vx_callVX X hx (C := C) (hh := hh) (bytes := bytes) (maxL := maxL) (ret := ret) ho hl hin hse hcode hy hK (by rw [hT]; exact hcB) hoB hclB hg (hsize.trans hml.symm) (argsL := As) (rest := rest) (fun sig h => hn.trans (hlen sig h)) hstack hW (by rw [hb]; exact hdg)
    (fun vm₁ hW₁ => ⟨hf.1, hf.2, hPc (T.setVm vm₁) hT hW₁⟩) with ⟨v, vm₁, ⟨U', l2, c2, s2⟩, hW₁, X', ⟨g', mk, t, L, e1, e2, hq, h1, hL, h2, h3⟩, st⟩ | ⟨q, vm₁, ⟨U', l2, c2, s2⟩, hW₁, X', ⟨g', mk, t, L, E, ce, e1, e2, hq, hce, hcv, hcl, h1, hL, h2, h3⟩, st⟩
  · dsimp only [Pt.U, Pt.locs, Pt.cells, Pt.slots] at X' e1 e2 h1 h2 h3 st
    subst h1; subst h2; subst h3
    exact Or.inl ⟨v, (T.setVm vm₁).calling g' mk (Value.ref b :: As).toArray, t, U', L, hT, X', hL, e1, e2, hq, st⟩
  · dsimp only [Pt.U, Pt.locs, Pt.cells, Pt.slots] at X' e1 e2 h1 h2 h3 st hcl
    subst h1; subst h2; subst h3
    exact Or.inr ⟨q, (T.setVm vm₁).calling g' mk (Value.ref b :: As).toArray, t, U', L, E, ce, hT, X', hL, e1, e2, hq, hce, hcv, vx_cls hW₁ hcl, st⟩
theorem vx_runSX {hh : List (Nat × Nat × Nat × Nat)} (S : CallFix p m c cc nL s args Ts own) (hM : vx_Met l y ws rm Pc Qc XC mc ms free) (cw : vx_CSW R s args own index y bytes maxL ret hh ws rm mc ms n) (hp : PreS s H Pc As)
    (hg : g.method = m) (hn : As.length = n) (hsize : g.locals.size = nL) (hstack : g.stack = As.reverse ++ rest) (hW : 2 * g.monitorRoom + (rest.map fun v => v.category).sum ≤ 8) (hdg : decode cc g.pc = .ok (.invokestatic index, 3)) (hf : cells + mc ≤ R.cells ∧ slots + ms ≤ R.slots) :
    vx_Run p l e R s m args below meth c H locs cells slots mc ms g rest (Qc As.toArray) XC free := by
  obtain ⟨⟨hrc, hrs, hfr, hlo, hws, hcw⟩, hcode, hini, hy, hlen, hl, hstt⟩ := cw
  have hK : vx_Back l R p e below s args y 3 8 (PreOf R mc ms Pc) (PostOf Qc mc ms free) (vx_Post XC mc ms free) := vx_backW (hh := hh) (bytes := bytes) (maxL := maxL) (ret := ret) hM hp.1 hrc hrs hfr hlo hws hcw (fun a' U hW => word_at hW (Or.inl (by first | rfl | simp [Cond.onTables, Cond.keeps, Cond.steady])) hini)
  obtain ⟨hx, hb, hml, ho, -⟩ := S
  intro T hT X
  rcases vx_callSX X hx (hh := hh) (bytes := bytes) (maxL := maxL) (ret := ret) ho hl hstt hini hcode hy hK hg (hsize.trans hml.symm) (argsL := As) (rest := rest) (fun sig h => hn.trans (hlen sig h)) hstack hW (by rw [hb]; exact hdg)
    (fun vm₁ hW₁ => ⟨hf.1, hf.2, hp.2 (T.setVm vm₁) hT hW₁⟩) with ⟨v, vm₁, ⟨U', l2, c2, s2⟩, hW₁, X', ⟨g', mk, t, L, e1, e2, hq, h1, hL, h2, h3⟩, st⟩ | ⟨q, vm₁, ⟨U', l2, c2, s2⟩, hW₁, X', ⟨g', mk, t, L, E, ce, e1, e2, hq, hce, hcv, hcl, h1, hL, h2, h3⟩, st⟩
  · dsimp only [Pt.U, Pt.locs, Pt.cells, Pt.slots] at X' e1 e2 h1 h2 h3 st
    subst h1; subst h2; subst h3
    exact Or.inl ⟨v, (T.setVm vm₁).calling g' mk As.toArray, t, U', L, hT, X', hL, e1, e2, hq, st⟩
  · dsimp only [Pt.U, Pt.locs, Pt.cells, Pt.slots] at X' e1 e2 h1 h2 h3 st hcl
    subst h1; subst h2; subst h3
    exact Or.inr ⟨q, (T.setVm vm₁).calling g' mk As.toArray, t, U', L, E, ce, hT, X', hL, e1, e2, hq, hce, hcv, vx_cls hW₁ hcl, st⟩
end
end VXH
theorem vx_ofWH {l : Launch} {y : MethodName} {ws ws' : List Cond} {rm : Room} {Pc : Array Value → State → Prop} {Qc : Array Value → State → Outcome → State → Prop} {XC : String → State → State → Prop} {mc ms : Nat} {free : Addr → Prop} {cc : ByteArray} {maxL : Nat} {ret : Option FieldType} {hh : List (Nat × Nat × Nat × Nat)}
    (hy : plainName y.cls = true) (hw : ws = Cond.codeWith y cc maxL ret hh :: ws')
    (body : ∀ p e s m args below meth c s₁, BodyLoose p l y (headSpec ws rm) cc maxL ret e s m args below meth c s₁ → c.maxLocals = maxL → Pc args s →
      W p l e (headSpec ws rm).room s m args below meth c s.heap [] 0 0 (vx_MQ below Qc XC args s mc ms free) (entryFrame m args maxL)) : vx_Met l y ws rm Pc Qc XC mc ms free := by
  refine MetFree.of_bodyS (code := cc) (maxLocals := maxL) (ret := ret) hy ?_ ?_
  · intro args s m h hn
    obtain ⟨m9, meth, c, hn9, h1, h2, h3, h4, -, h5, h6, -⟩ := Cond.codeWith_spec (atoms_spec (ws := ws) h _ (by rw [hw]; exact List.mem_cons_self))
    cases hn.symm.trans hn9
    exact ⟨meth, c, h1, h2, h3, h4, h5, h6⟩
  · intro p e s m args below meth c s₁ B hml hP _
    have hh0 : s₁.heap = s.heap := by rw [B.state]; rfl
    obtain ⟨t, a1, o, b1, b2, b3⟩ := body p e s m args below meth c s₁ B hml hP s₁ hh0 (Stand.of_body B)
    exact ⟨t, o, a1, b1, b2, b3⟩
/-! ===== END ===== -/
end
section
/-! The layer: one picture of the heap (address to cell), one word list, one room; a judgement ga_G of a method's frame that hides the machine -/
/-- the good words of the tables -/
def ga_Gl : List Cond := lw_tbl.filter goodWord
theorem ga_Gl_good : ∀ w ∈ ga_Gl, goodWord w = true := fun _ h => (List.mem_filter.mp h).2
theorem ga_Gl_of {w : Cond} (h : w ∈ lw_tbl) (g : goodWord w = true) : w ∈ ga_Gl := List.mem_filter.mpr ⟨h, g⟩
theorem ga_t {w : Cond} (i : Nat) (h : tables_1[i]? = some w) (g : goodWord w = true) : w ∈ ga_Gl := ga_Gl_of (List.mem_append_right _ (List.mem_of_getElem? h)) g
theorem ga_p {w : Cond} (i : Nat) (h : (k2_sels lw_privs)[i]? = some w) (g : goodWord w = true) : w ∈ ga_Gl := ga_Gl_of (List.mem_append_left _ (List.mem_of_getElem? h)) g
/-- what is fixed over the run: classes and slots, the array classes (int, boolean, long, int[], Row), the heap's size at the start -/
abbrev ga_E : Type := va_G × (ClassId × ClassId × ClassId × ClassId × ClassId) × Nat
abbrev ga_cI (E : ga_E) : ClassId := E.2.1.1
abbrev ga_cZ (E : ga_E) : ClassId := E.2.1.2.1
abbrev ga_cJ (E : ga_E) : ClassId := E.2.1.2.2.1
abbrev ga_cII (E : ga_E) : ClassId := E.2.1.2.2.2.1
abbrev ga_cR (E : ga_E) : ClassId := E.2.1.2.2.2.2
abbrev ga_N0 (E : ga_E) : Nat := E.2.2
def ga_Tys (E : ga_E) : List (ClassId × FieldType) := [(ga_cI E, .int), (ga_cZ E, .boolean), (ga_cJ E, .long), (ga_cII E, .array .int), (ga_cR E, .object RX6)]
def ga_A (E : ga_E) : Nat → Prop := fun q => ga_N0 E ≤ q
/-- the picture: a cell by its address -/
abbrev ga_H : Type := Nat → Option va_E
def ga_up (h : ga_H) (a : Nat) (c : va_E) : ga_H := fun q => if q = a then some c else h q
theorem ga_up_eq {h : ga_H} {a : Nat} {c : va_E} : ga_up h a c a = some c := if_pos rfl
theorem ga_up_ne {h : ga_H} {a b : Nat} {c : va_E} (n : b ≠ a) : ga_up h a c b = h b := if_neg n
theorem ga_up_up (h : ga_H) (a : Nat) (c d : va_E) : ga_up (ga_up h a c) a d = ga_up h a d := by
  funext q; unfold ga_up; by_cases e : q = a <;> simp [e]
theorem ga_up_self {h : ga_H} {a : Nat} {c : va_E} (e : h a = some c) : ga_up h a c = h := by
  funext q; unfold ga_up; by_cases e2 : q = a
  · subst e2; simp [e]
  · simp [e2]
theorem ga_up_comm (h : ga_H) {a b : Nat} (c d : va_E) (n : a ≠ b) : ga_up (ga_up h a c) b d = ga_up (ga_up h b d) a c := by
  funext q; unfold ga_up; by_cases e : q = b <;> by_cases e2 : q = a <;> simp [e, e2] <;> omega
/-- the heap holds the picture -/
def ga_C (E : ga_E) (h : ga_H) (H : Heap) : Prop := ∃ (L : List Nat) (f : Nat → va_E), (∀ a c, h a = some c → a ∈ L ∧ f a = c) ∧ va_P E.1 vwCl (va_pl L f) H ∧ va_D (ga_A E) (va_pl L f)
/-- fewer cells -/
theorem ga_C.sub {E : ga_E} {h h' : ga_H} {H : Heap} (hc : ga_C E h H) (hs : ∀ a c, h' a = some c → h a = some c) : ga_C E h' H := by
  obtain ⟨L, f, h1, h2, h3⟩ := hc
  exact ⟨L, f, fun a c e => h1 a c (hs a c e), h2, h3⟩
/-- a cell of the picture, by a place in a world -/
theorem ga_C.at {E : ga_E} {h : ga_H} {H : Heap} (hc : ga_C E h H) : ∃ (L : List Nat) (f : Nat → va_E), va_P E.1 vwCl (va_pl L f) H ∧ va_D (ga_A E) (va_pl L f) ∧ (∀ a c, h a = some c → ∃ k : Nat, (va_pl L f)[k]? = some (a, c)) ∧
    (∀ a c c' (H1 : Heap) (k : Nat), h a = some c → (va_pl L f)[k]? = some (a, c) → va_P E.1 vwCl ((va_pl L f).set k (a, c')) H1 → va_D (ga_A E) ((va_pl L f).set k (a, c')) → ga_C E (ga_up h a c') H1) ∧
    (∀ q c' (H1 : Heap), va_P E.1 vwCl (va_pl L f ++ [(q, c')]) H1 → va_D (ga_A E) (va_pl L f ++ [(q, c')]) → ga_C E (ga_up h q c') H1 ∧ h q = none) := by
  obtain ⟨L, f, h1, h2, h3⟩ := hc
  refine ⟨L, f, h2, h3, fun a c e => ?_, fun a c c' H1 k e hk hP hD => ?_, fun q c' H1 hP hD => ?_⟩
  · obtain ⟨k, hk⟩ := va_pl_get (X := []) (f := f) (h1 a c e).1
    rw [(h1 a c e).2] at hk
    exact ⟨k, hk⟩
  · have e1 : (va_pl L f).set k (a, c') = va_pl L (va_up f a c') := va_pl_set (X := []) h3 (h1 a c e).1 (by rw [(h1 a c e).2]; exact hk)
    rw [e1] at hP hD
    refine ⟨L, va_up f a c', fun b d hb => ?_, hP, hD⟩
    by_cases eb : b = a
    · subst eb
      rw [ga_up_eq] at hb
      cases hb
      exact ⟨(h1 b c e).1, if_pos rfl⟩
    · rw [ga_up_ne eb] at hb
      exact ⟨(h1 b d hb).1, (if_neg eb : va_up f a c' b = f b).trans (h1 b d hb).2⟩
  · have hq : q ∉ L := va_pl_fresh2 (X := []) hD
    rw [va_pl_push hq] at hP hD
    refine ⟨⟨L ++ [q], va_up f q c', fun b d hb => ?_, hP, hD⟩, ?_⟩
    · by_cases eb : b = q
      · subst eb
        rw [ga_up_eq] at hb
        cases hb
        exact ⟨by simp, if_pos rfl⟩
      · rw [ga_up_ne eb] at hb
        exact ⟨List.mem_append_left _ (h1 b d hb).1, (if_neg eb : va_up f q c' b = f b).trans (h1 b d hb).2⟩
    · cases e : h q with
      | none => rfl
      | some c => exact absurd (h1 q c e).1 hq
/-- the places of locals: what each is known to hold -/
def ga_L (ls : Array Slot) (nL : Nat) (lv : List (Option Value)) : Prop := ls.size = nL ∧ lv_wf ls ∧ ∀ (i : Nat) (v : Value), lv[i]? = some (some v) → ls[i]? = some (.val v)
theorem ga_L.has {ls : Array Slot} {nL i : Nat} {lv : List (Option Value)} {v : Value} (h : ga_L ls nL lv) (e : lv[i]? = some (some v)) : lv_has ls nL [(i, v)] := ⟨h.1, h.2.1, fun q hq => by
  rcases List.mem_singleton.mp hq with rfl
  exact h.2.2 i v e⟩
/-- no long reaches into place i -/
def ga_nl (lv : List (Option Value)) : Nat → Bool
  | 0 => true
  | i + 1 => match lv[i]? with
    | some (some v) => v.category == 1
    | _ => true
theorem ga_nl_s {lv : List (Option Value)} {i : Nat} {v : Value} (h : ga_nl lv (i + 1) = true) (e : lv[i]? = some (some v)) : v.category = 1 := by
  simp only [ga_nl, e, beq_iff_eq] at h
  exact h
theorem ga_L.st1 {ls : Array Slot} {nL i : Nat} {lv : List (Option Value)} {v : Value} (h : ga_L ls nL lv) (hi : i < nL) (hc : v.category = 1) (hn : ga_nl lv i = true) : ∃ ls', storeLocals ls i v = some ls' ∧ ga_L ls' nL (lv.set i (some v)) := by
  obtain ⟨ls', e, h'⟩ := lv_store1 (l := []) ⟨h.1, h.2.1, fun q hq => by cases hq⟩ hi hc
  refine ⟨ls', e, h'.1, h'.2.1, fun j w hw => ?_⟩
  by_cases ej : j = i
  · subst ej
    have hl : j < lv.length := by
      have := (List.getElem?_eq_some_iff.mp hw).1
      simpa using this
    rw [List.getElem?_set_self hl] at hw
    cases hw
    exact h'.2.2 (j, v) List.mem_cons_self
  · rw [List.getElem?_set_ne (fun q => ej q.symm)] at hw
    obtain ⟨ls2, e2, h2⟩ := lv_store1 (l := [(j, w)]) (h.has hw) hi hc
    cases e.symm.trans e2
    refine h2.2.2 (j, w) (List.mem_cons_of_mem _ (List.mem_filter.mpr ⟨List.mem_singleton.mpr rfl, ?_⟩))
    have : ¬ (j + 1 = i ∧ w.category = 2) := by
      rintro ⟨e3, e4⟩
      subst e3
      have := ga_nl_s hn hw
      omega
    simp only [Bool.and_eq_true, Bool.not_eq_true', beq_eq_false_iff_ne, Bool.and_eq_false_iff, ne_eq]
    refine ⟨ej, ?_⟩
    by_cases e5 : j + 1 = i
    · exact Or.inr (fun q => this ⟨e5, q⟩)
    · exact Or.inl e5
theorem ga_L.st2 {ls : Array Slot} {nL i : Nat} {lv : List (Option Value)} {v : Value} (h : ga_L ls nL lv) (hi : i + 1 < nL) (hc : v.category = 2) (hn : ga_nl lv i = true) : ∃ ls', storeLocals ls i v = some ls' ∧ ga_L ls' nL ((lv.set i (some v)).set (i + 1) none) := by
  obtain ⟨ls', e, h'⟩ := lv_store2 (l := []) ⟨h.1, h.2.1, fun q hq => by cases hq⟩ hi hc
  refine ⟨ls', e, h'.1, h'.2.1, fun j w hw => ?_⟩
  by_cases ek : j = i + 1
  · subst ek
    by_cases hl : i + 1 < (lv.set i (some v)).length
    · rw [List.getElem?_set_self hl] at hw
      cases hw
    · rw [List.getElem?_eq_none (by rw [List.length_set]; omega)] at hw
      cases hw
  rw [List.getElem?_set_ne (fun q => ek q.symm)] at hw
  by_cases ej : j = i
  · subst ej
    have hl : j < lv.length := by
      have := (List.getElem?_eq_some_iff.mp hw).1
      simpa using this
    rw [List.getElem?_set_self hl] at hw
    cases hw
    exact h'.2.2 (j, v) List.mem_cons_self
  · rw [List.getElem?_set_ne (fun q => ej q.symm)] at hw
    obtain ⟨ls2, e2, h2⟩ := lv_store2 (l := [(j, w)]) (h.has hw) hi hc
    cases e.symm.trans e2
    refine h2.2.2 (j, w) (List.mem_cons_of_mem _ (List.mem_filter.mpr ⟨List.mem_singleton.mpr rfl, ?_⟩))
    have : ¬ (j + 1 = i ∧ w.category = 2) := by
      rintro ⟨e3, e4⟩
      subst e3
      have := ga_nl_s hn hw
      omega
    simp only [Bool.and_eq_true, Bool.not_eq_true', beq_eq_false_iff_ne, Bool.and_eq_false_iff, ne_eq]
    refine ⟨ej, ek, ?_⟩
    by_cases e5 : j + 1 = i
    · exact Or.inr (fun q => this ⟨e5, q⟩)
    · exact Or.inl e5
theorem ga_L.weaken {ls : Array Slot} {nL : Nat} {lv lv' : List (Option Value)} (h : ga_L ls nL lv) (hw : ∀ (i : Nat) (v : Value), lv'[i]? = some (some v) → lv[i]? = some (some v)) : ga_L ls nL lv' := ⟨h.1, h.2.1, fun i v e => h.2.2 i v (hw i v e)⟩
/-- the locals at a method's entry -/
def ga_args : List Value → List (Option Value)
  | [] => []
  | v :: vs => match v with
    | .long _ => some v :: none :: ga_args vs
    | .double _ => some v :: none :: ga_args vs
    | _ => some v :: ga_args vs
theorem ga_args_in : ∀ (vs : List Value) (o i : Nat) (v : Value), (ga_args vs)[i]? = some (some v) → (o + i, v) ∈ lv_args o vs
  | [], o, i, v, h => by simp [ga_args] at h
  | w :: vs, o, i, v, h => by
    have two : w.category = 2 → ga_args (w :: vs) = some w :: none :: ga_args vs := by
      intro hw; cases w <;> first | rfl | (simp [Value.category] at hw)
    have one : ¬ w.category = 2 → ga_args (w :: vs) = some w :: ga_args vs := by
      intro hw; cases w <;> first | rfl | (simp [Value.category] at hw)
    by_cases hw : w.category = 2
    · rw [two hw] at h
      show _ ∈ (o, w) :: lv_args (if w.category = 2 then o + 2 else o + 1) vs
      rw [if_pos hw]
      match i, h with
      | 0, h => cases h; exact List.mem_cons_self
      | 1, h => cases h
      | i + 2, h =>
        have := ga_args_in vs (o + 2) i v h
        rw [show o + (i + 2) = o + 2 + i by omega]
        exact List.mem_cons_of_mem _ this
    · rw [one hw] at h
      show _ ∈ (o, w) :: lv_args (if w.category = 2 then o + 2 else o + 1) vs
      rw [if_neg hw]
      match i, h with
      | 0, h => cases h; exact List.mem_cons_self
      | i + 1, h =>
        have := ga_args_in vs (o + 1) i v h
        rw [show o + (i + 1) = o + 1 + i by omega]
        exact List.mem_cons_of_mem _ this
theorem ga_L.entry (vs : List Value) {n k : Nat} (h : (lg_sl vs).length ≤ n) : ga_L ((lg_sl vs ++ List.replicate (n - (lg_sl vs).length) Slot.unset).toArray) n (ga_args vs ++ List.replicate k none) := by
  obtain ⟨h1, h2, h3⟩ := lv_entry vs h
  refine ⟨h1, h2, fun i v e => ?_⟩
  have : (ga_args vs)[i]? = some (some v) := by
    by_cases hl : i < (ga_args vs).length
    · rw [List.getElem?_append_left hl] at e; exact e
    · rw [List.getElem?_append_right (by omega)] at e
      have := List.mem_of_getElem? e
      have := (List.mem_replicate.mp this).2
      cases this
  have := h3 _ (ga_args_in vs 0 i v this)
  rwa [Nat.zero_add] at this
/-- what the statement says of texts, of casts among the exceptions, of Throwable's statics -/
def ga_txt : List (Nat × String) := [(67, "no such factor"), (74, "powers are 0 .. 6"), (85, "below is 0 modulo 32003"), (100, "powers are 0 .. 10"), (200, "the answers are not known"), (203, "powers are 0 .. 12"), (138, "no such answer"), (160, "n is 0 .. 300"), (175, "an end is 0 or 1"), (180, "powers are 0 .. 18")]
def ga_exc : List String := ["java/lang/ArrayIndexOutOfBoundsException", "java/lang/ArithmeticException", "java/lang/IllegalArgumentException", "java/lang/IllegalStateException"]
def ga_pas : List (String × String) := [("java/lang/IllegalArgumentException", "java/lang/ArrayIndexOutOfBoundsException"), ("java/lang/ArithmeticException", "java/lang/ArrayIndexOutOfBoundsException"), ("java/lang/ArithmeticException", "java/lang/IllegalArgumentException"), ("java/lang/IllegalArgumentException", "java/lang/IllegalStateException")]
def ga_Str (s : State) : Prop := (∀ q ∈ ga_txt, ∃ sa : Nat, vk_R "RecurrenceAnswers" q.1 q.2 sa s) ∧ (∀ x ∈ ga_exc, va_Nw (.castable x x) s) ∧ ∀ q ∈ ga_pas, va_Nc q.1 q.2 s
theorem ga_Str.warm {s U : State} (hW : s.WarmedH U.vm) (h : ga_Str s) : ga_Str U := ⟨fun q hq => (h.1 q hq).elim (fun sa z => ⟨sa, vk_R.warm hW z⟩), fun x hx => va_Nw.warmC hW (h.2.1 x hx), fun q hq => va_Nc.moved hW.alike (h.2.2 q hq)⟩
theorem ga_Str.same {s U : State} (e : s.vm = U.vm) (h : ga_Str s) : ga_Str U := ⟨fun q hq => (h.1 q hq).elim (fun sa z => ⟨sa, vk_R.same e.symm z⟩), fun x hx => va_Nw.same rfl e (h.2.1 x hx), fun q hq => va_Nc.moved (e ▸ Vm.Alike.refl s.vm) (h.2.2 q hq)⟩
def ga_Stc (E : ga_E) (s : State) (H : Heap) : Prop := vx_Zq Bundle.tN "UNASSIGNED_STACK" Bundle.steD (ga_A E) s H ∧ vx_Zq Bundle.tN "SUPPRESSED_SENTINEL" Bundle.listD (ga_A E) s H
theorem ga_Stc.moved {E : ga_E} {u U : State} {H : Heap} (hvm : u.vm.Alike U.vm) (h : ga_Stc E u H) : ga_Stc E U H := ⟨vx_Zq.moved hvm h.1, vx_Zq.moved hvm h.2⟩
theorem ga_Stc.kept {E : ga_E} {U : State} {H H1 : Heap} (h : ga_Stc E U H) (hq : ∀ a : Nat, a < H.size → ¬ ga_A E a → H1[a]? = H[a]?) : ga_Stc E U H1 := ⟨vx_Zq.kept h.1 hq, vx_Zq.kept h.2 hq⟩
theorem va_AOA.moved {ty : FieldType} {u U : State} (hvm : u.vm.Alike U.vm) (h : va_AOA ty u) : va_AOA ty U := by
  obtain ⟨comp, c, k, h1, h2, h3, h4, h5⟩ := arrayOverA_spec h
  obtain ⟨k', hk', he⟩ := hvm.2.2 _ _ h3
  have hi : (U.vm.classes.findIdx? fun (x : Class) => match x.kind with | .array component _ => component == comp | _ => false) = some c := by
    have e1 := va_idx_bare U.vm comp
    have e2 := va_idx_bare u.vm comp
    have e3 : U.vm.bare = u.vm.bare := by first | exact hvm.bare_eq | exact hvm.bare_eq.symm
    rw [e3] at e1
    exact (e1.symm.trans e2).trans h2
  have hkind : k'.kind = .array comp (.array ty) := by rw [he]; exact h4
  have f1 : U.vm.findClass (FieldType.array ty).toString = some comp := by rw [hvm.findClass]; exact h1
  have f2 : U.vm.findClass ("[" ++ (FieldType.array ty).toString) = some c := by rw [hvm.findClass]; exact h5
  unfold va_AOA Cond.before Cond.holds
  simp only [Cond.value]
  rw [f1, Option.bind_some]
  refine (congrArg (fun o : Option Nat => (o.bind (fun c => (U.vm.classes[c]?).map fun (k : Class) => match k.kind with | .array _ t => decide (t = FieldType.array ty) && decide (U.vm.findClass ("[" ++ (FieldType.array ty).toString) = some c) | _ => false) == some true)) hi).trans ?_
  simp [hk', hkind, f2]
end
section
/-! words of the tables, by their places -/
theorem wi_L : (Cond.initialized "RecurrenceAnswersLaw") ∈ ga_Gl := ga_t 0 (by decide +kernel) rfl
theorem wi_X8 : (Cond.initialized "RecurrenceAnswers") ∈ ga_Gl := ga_t 1 (by decide +kernel) rfl
theorem wi_X1 : (Cond.initialized "RecurrenceAnswers$Equation") ∈ ga_Gl := ga_t 2 (by decide +kernel) rfl
theorem wi_J9 : (Cond.initialized "java/lang/Math") ∈ ga_Gl := ga_t 3 (by decide +kernel) rfl
theorem wi_X2 : (Cond.initialized "RecurrenceAnswers$LinearSystem") ∈ ga_Gl := ga_t 4 (by decide +kernel) rfl
theorem wi_X0 : (Cond.initialized "RecurrenceAnswers$Answers") ∈ ga_Gl := ga_t 5 (by decide +kernel) rfl
theorem wi_X5 : (Cond.initialized "RecurrenceAnswers$Roots") ∈ ga_Gl := ga_t 6 (by decide +kernel) rfl
theorem wi_X6 : (Cond.initialized "RecurrenceAnswers$Row") ∈ ga_Gl := ga_t 7 (by decide +kernel) rfl
theorem wi_X7 : (Cond.initialized "RecurrenceAnswers$Values") ∈ ga_Gl := ga_t 8 (by decide +kernel) rfl
theorem wi_X9 : (Cond.initialized "RecurrenceAnswersModel") ∈ ga_Gl := ga_t 9 (by decide +kernel) rfl
theorem wi_java_lang_Throwable : (Cond.initialized "java/lang/Throwable") ∈ ga_Gl := ga_t 10 (by decide +kernel) rfl
theorem wi_java_lang_Exception : (Cond.initialized "java/lang/Exception") ∈ ga_Gl := ga_t 11 (by decide +kernel) rfl
theorem wi_java_lang_RuntimeException : (Cond.initialized "java/lang/RuntimeException") ∈ ga_Gl := ga_t 12 (by decide +kernel) rfl
theorem wi_java_lang_IndexOutOfBoundsException : (Cond.initialized "java/lang/IndexOutOfBoundsException") ∈ ga_Gl := ga_t 13 (by decide +kernel) rfl
theorem wi_Jx00060 : (Cond.initialized "java/lang/ArrayIndexOutOfBoundsException") ∈ ga_Gl := ga_t 14 (by decide +kernel) rfl
theorem wi_J0 : (Cond.initialized "java/lang/String") ∈ ga_Gl := ga_t 15 (by decide +kernel) rfl
theorem wi_java_lang_ArithmeticException : (Cond.initialized "java/lang/ArithmeticException") ∈ ga_Gl := ga_t 16 (by decide +kernel) rfl
theorem wi_java_lang_IllegalArgumentException : (Cond.initialized "java/lang/IllegalArgumentException") ∈ ga_Gl := ga_t 17 (by decide +kernel) rfl
theorem wi_X3 : (Cond.initialized "RecurrenceAnswers$Numbers") ∈ ga_Gl := ga_t 18 (by decide +kernel) rfl
theorem wi_X4 : (Cond.initialized "RecurrenceAnswers$Polynomials") ∈ ga_Gl := ga_t 19 (by decide +kernel) rfl
theorem wi_J10 : (Cond.initialized "java/lang/System") ∈ ga_Gl := ga_t 20 (by decide +kernel) rfl
theorem wi_java_lang_IllegalStateException : (Cond.initialized "java/lang/IllegalStateException") ∈ ga_Gl := ga_t 21 (by decide +kernel) rfl
theorem cl_L_8 : (Cond.classLink "RecurrenceAnswersLaw" (8 : Nat) "RecurrenceAnswers") ∈ ga_Gl := ga_t 22 (by decide +kernel) rfl
theorem wn_X8 : (Cond.instantiable "RecurrenceAnswers" (7 : Nat)) ∈ ga_Gl := ga_t 23 (by decide +kernel) rfl
theorem ml_L_70 : (Cond.methodLink "RecurrenceAnswersLaw" (70 : Nat) ({ cls := "RecurrenceAnswers", name := "<init>", desc := "(I)V" } : MethodName)) ∈ ga_Gl := ga_t 24 (by decide +kernel) rfl
theorem im_X8_init : (Cond.instanceMethod ({ cls := "RecurrenceAnswers", name := "<init>", desc := "(I)V" } : MethodName)) ∈ ga_Gl := ga_t 25 (by decide +kernel) rfl
theorem cw_X8_init : (Cond.code ({ cls := "RecurrenceAnswers", name := "<init>", desc := "(I)V" } : MethodName) prog_1_method_1_code (2 : Nat) (Option.none : Option FieldType)) ∈ ga_Gl := ga_t 26 (by decide +kernel) rfl
theorem ml_X8_1 : (Cond.methodLink "RecurrenceAnswers" (1 : Nat) ({ cls := "java/lang/Object", name := "<init>", desc := "()V" } : MethodName)) ∈ ga_Gl := ga_t 27 (by decide +kernel) rfl
theorem im_java_lang_Object__init_ : (Cond.instanceMethod ({ cls := "java/lang/Object", name := "<init>", desc := "()V" } : MethodName)) ∈ ga_Gl := ga_t 28 (by decide +kernel) rfl
theorem cw_java_lang_Object__init_ : (Cond.code ({ cls := "java/lang/Object", name := "<init>", desc := "()V" } : MethodName) object_method_1_code (1 : Nat) (Option.none : Option FieldType)) ∈ ga_Gl := ga_t 29 (by decide +kernel) rfl
theorem cl_X8_7 : (Cond.classLink "RecurrenceAnswers" (7 : Nat) "RecurrenceAnswers$Equation") ∈ ga_Gl := ga_t 30 (by decide +kernel) rfl
theorem wn_X1 : (Cond.instantiable "RecurrenceAnswers$Equation" (3 : Nat)) ∈ ga_Gl := ga_t 31 (by decide +kernel) rfl
theorem ml_X8_11 : (Cond.methodLink "RecurrenceAnswers" (11 : Nat) ({ cls := "java/lang/Math", name := "min", desc := "(II)I" } : MethodName)) ∈ ga_Gl := ga_t 32 (by decide +kernel) rfl
theorem sm_J9_min_7cf53 : (Cond.static ({ cls := "java/lang/Math", name := "min", desc := "(II)I" } : MethodName)) ∈ ga_Gl := ga_t 33 (by decide +kernel) rfl
theorem cw_J9_min_7cf53 : (Cond.code ({ cls := "java/lang/Math", name := "min", desc := "(II)I" } : MethodName) prog_18_method_69_code (2 : Nat) (Option.some FieldType.int)) ∈ ga_Gl := ga_t 34 (by decide +kernel) rfl
theorem ml_X8_17 : (Cond.methodLink "RecurrenceAnswers" (17 : Nat) ({ cls := "java/lang/Math", name := "max", desc := "(II)I" } : MethodName)) ∈ ga_Gl := ga_t 35 (by decide +kernel) rfl
theorem sm_J9_max_7cf53 : (Cond.static ({ cls := "java/lang/Math", name := "max", desc := "(II)I" } : MethodName)) ∈ ga_Gl := ga_t 36 (by decide +kernel) rfl
theorem cw_J9_max_7cf53 : (Cond.code ({ cls := "java/lang/Math", name := "max", desc := "(II)I" } : MethodName) prog_18_method_65_code (2 : Nat) (Option.some FieldType.int)) ∈ ga_Gl := ga_t 37 (by decide +kernel) rfl
theorem ml_X8_20 : (Cond.methodLink "RecurrenceAnswers" (20 : Nat) ({ cls := "RecurrenceAnswers$Equation", name := "<init>", desc := "(I)V" } : MethodName)) ∈ ga_Gl := ga_t 38 (by decide +kernel) rfl
theorem im_X1_init : (Cond.instanceMethod ({ cls := "RecurrenceAnswers$Equation", name := "<init>", desc := "(I)V" } : MethodName)) ∈ ga_Gl := ga_t 39 (by decide +kernel) rfl
theorem cw_X1_init : (Cond.code ({ cls := "RecurrenceAnswers$Equation", name := "<init>", desc := "(I)V" } : MethodName) prog_3_method_1_code (2 : Nat) (Option.none : Option FieldType)) ∈ ga_Gl := ga_t 40 (by decide +kernel) rfl
theorem ml_X1_3 : (Cond.methodLink "RecurrenceAnswers$Equation" (3 : Nat) ({ cls := "java/lang/Object", name := "<init>", desc := "()V" } : MethodName)) ∈ ga_Gl := ga_t 41 (by decide +kernel) rfl
theorem cl_X1_9 : (Cond.classLink "RecurrenceAnswers$Equation" (9 : Nat) "[[I") ∈ ga_Gl := ga_t 42 (by decide +kernel) rfl
theorem fl_X1_20 : (Cond.fieldLink "RecurrenceAnswers$Equation" (20 : Nat) "RecurrenceAnswers$Equation" "order" "I") ∈ ga_Gl := ga_t 44 (by decide +kernel) rfl
theorem fl_X8_61 : (Cond.fieldLink "RecurrenceAnswers" (61 : Nat) "RecurrenceAnswers$Equation" "order" "I") ∈ ga_Gl := ga_t 45 (by decide +kernel) rfl
theorem fl_X1_11 : (Cond.fieldLink "RecurrenceAnswers$Equation" (11 : Nat) "RecurrenceAnswers$Equation" "factors" "[[I") ∈ ga_Gl := ga_t 46 (by decide +kernel) rfl
theorem fl_X8_88 : (Cond.fieldLink "RecurrenceAnswers" (88 : Nat) "RecurrenceAnswers$Equation" "factors" "[[I") ∈ ga_Gl := ga_t 47 (by decide +kernel) rfl
theorem fl_X2_32 : (Cond.fieldLink "RecurrenceAnswers$LinearSystem" (32 : Nat) "RecurrenceAnswers$Equation" "factors" "[[I") ∈ ga_Gl := ga_t 48 (by decide +kernel) rfl
theorem fl_X0_98 : (Cond.fieldLink "RecurrenceAnswers$Answers" (98 : Nat) "RecurrenceAnswers$Equation" "factors" "[[I") ∈ ga_Gl := ga_t 49 (by decide +kernel) rfl
theorem fl_X7_28 : (Cond.fieldLink "RecurrenceAnswers$Values" (28 : Nat) "RecurrenceAnswers$Equation" "factors" "[[I") ∈ ga_Gl := ga_t 50 (by decide +kernel) rfl
theorem fl_X1_16 : (Cond.fieldLink "RecurrenceAnswers$Equation" (16 : Nat) "RecurrenceAnswers$Equation" "rightSide" "[I") ∈ ga_Gl := ga_t 51 (by decide +kernel) rfl
theorem fl_X2_27 : (Cond.fieldLink "RecurrenceAnswers$LinearSystem" (27 : Nat) "RecurrenceAnswers$Equation" "rightSide" "[I") ∈ ga_Gl := ga_t 52 (by decide +kernel) rfl
theorem fl_X8_102 : (Cond.fieldLink "RecurrenceAnswers" (102 : Nat) "RecurrenceAnswers$Equation" "rightSide" "[I") ∈ ga_Gl := ga_t 53 (by decide +kernel) rfl
theorem fl_X7_48 : (Cond.fieldLink "RecurrenceAnswers$Values" (48 : Nat) "RecurrenceAnswers$Equation" "rightSide" "[I") ∈ ga_Gl := ga_t 54 (by decide +kernel) rfl
theorem ac_int : (Cond.arrayClass FieldType.int) ∈ ga_Gl := ga_t 62 (by decide +kernel) rfl
theorem cl_X8_27 : (Cond.classLink "RecurrenceAnswers" (27 : Nat) "RecurrenceAnswers$LinearSystem") ∈ ga_Gl := ga_t 63 (by decide +kernel) rfl
theorem wn_X2 : (Cond.instantiable "RecurrenceAnswers$LinearSystem" (4 : Nat)) ∈ ga_Gl := ga_t 64 (by decide +kernel) rfl
theorem im_X2_init : (Cond.instanceMethod ({ cls := "RecurrenceAnswers$LinearSystem", name := "<init>", desc := "()V" } : MethodName)) ∈ ga_Gl := ga_t 66 (by decide +kernel) rfl
theorem cw_X2_init : (Cond.code ({ cls := "RecurrenceAnswers$LinearSystem", name := "<init>", desc := "()V" } : MethodName) prog_4_method_1_code (1 : Nat) (Option.none : Option FieldType)) ∈ ga_Gl := ga_t 67 (by decide +kernel) rfl
theorem ml_X2_3 : (Cond.methodLink "RecurrenceAnswers$LinearSystem" (3 : Nat) ({ cls := "java/lang/Object", name := "<init>", desc := "()V" } : MethodName)) ∈ ga_Gl := ga_t 68 (by decide +kernel) rfl
theorem cl_X2_9 : (Cond.classLink "RecurrenceAnswers$LinearSystem" (9 : Nat) "[[I") ∈ ga_Gl := ga_t 69 (by decide +kernel) rfl
theorem fl_X2_11 : (Cond.fieldLink "RecurrenceAnswers$LinearSystem" (11 : Nat) "RecurrenceAnswers$LinearSystem" "cells" "[[I") ∈ ga_Gl := ga_t 70 (by decide +kernel) rfl
theorem fl_X2_16 : (Cond.fieldLink "RecurrenceAnswers$LinearSystem" (16 : Nat) "RecurrenceAnswers$LinearSystem" "lineUsed" "[Z") ∈ ga_Gl := ga_t 71 (by decide +kernel) rfl
theorem fl_X2_20 : (Cond.fieldLink "RecurrenceAnswers$LinearSystem" (20 : Nat) "RecurrenceAnswers$LinearSystem" "pivotLine" "[I") ∈ ga_Gl := ga_t 72 (by decide +kernel) rfl
theorem fl_X2_24 : (Cond.fieldLink "RecurrenceAnswers$LinearSystem" (24 : Nat) "RecurrenceAnswers$LinearSystem" "term" "[I") ∈ ga_Gl := ga_t 73 (by decide +kernel) rfl
theorem ac_boolean : (Cond.arrayClass FieldType.boolean) ∈ ga_Gl := ga_t 83 (by decide +kernel) rfl
theorem cl_X8_34 : (Cond.classLink "RecurrenceAnswers" (34 : Nat) "RecurrenceAnswers$Answers") ∈ ga_Gl := ga_t 84 (by decide +kernel) rfl
theorem wn_X0 : (Cond.instantiable "RecurrenceAnswers$Answers" (10 : Nat)) ∈ ga_Gl := ga_t 85 (by decide +kernel) rfl
theorem ml_X8_36 : (Cond.methodLink "RecurrenceAnswers" (36 : Nat) ({ cls := "RecurrenceAnswers$Answers", name := "<init>", desc := "(LRecurrenceAnswers$LinearSystem;)V" } : MethodName)) ∈ ga_Gl := ga_t 86 (by decide +kernel) rfl
theorem im_X0_init : (Cond.instanceMethod ({ cls := "RecurrenceAnswers$Answers", name := "<init>", desc := "(LRecurrenceAnswers$LinearSystem;)V" } : MethodName)) ∈ ga_Gl := ga_t 87 (by decide +kernel) rfl
theorem cw_X0_init : (Cond.code ({ cls := "RecurrenceAnswers$Answers", name := "<init>", desc := "(LRecurrenceAnswers$LinearSystem;)V" } : MethodName) prog_2_method_1_code (3 : Nat) (Option.none : Option FieldType)) ∈ ga_Gl := ga_t 88 (by decide +kernel) rfl
theorem ml_X0_3 : (Cond.methodLink "RecurrenceAnswers$Answers" (3 : Nat) ({ cls := "java/lang/Object", name := "<init>", desc := "()V" } : MethodName)) ∈ ga_Gl := ga_t 89 (by decide +kernel) rfl
theorem cl_X0_9 : (Cond.classLink "RecurrenceAnswers$Answers" (9 : Nat) "RecurrenceAnswers$Roots") ∈ ga_Gl := ga_t 90 (by decide +kernel) rfl
theorem wn_X5 : (Cond.instantiable "RecurrenceAnswers$Roots" (7 : Nat)) ∈ ga_Gl := ga_t 91 (by decide +kernel) rfl
theorem im_X5_init : (Cond.instanceMethod ({ cls := "RecurrenceAnswers$Roots", name := "<init>", desc := "()V" } : MethodName)) ∈ ga_Gl := ga_t 93 (by decide +kernel) rfl
theorem cw_X5_init : (Cond.code ({ cls := "RecurrenceAnswers$Roots", name := "<init>", desc := "()V" } : MethodName) prog_7_method_1_code (1 : Nat) (Option.none : Option FieldType)) ∈ ga_Gl := ga_t 94 (by decide +kernel) rfl
theorem ml_X5_3 : (Cond.methodLink "RecurrenceAnswers$Roots" (3 : Nat) ({ cls := "java/lang/Object", name := "<init>", desc := "()V" } : MethodName)) ∈ ga_Gl := ga_t 95 (by decide +kernel) rfl
theorem fl_X5_9 : (Cond.fieldLink "RecurrenceAnswers$Roots" (9 : Nat) "RecurrenceAnswers$Roots" "found" "[I") ∈ ga_Gl := ga_t 96 (by decide +kernel) rfl
theorem fl_X5_15 : (Cond.fieldLink "RecurrenceAnswers$Roots" (15 : Nat) "RecurrenceAnswers$Roots" "remaining" "[I") ∈ ga_Gl := ga_t 97 (by decide +kernel) rfl
theorem fl_X5_18 : (Cond.fieldLink "RecurrenceAnswers$Roots" (18 : Nat) "RecurrenceAnswers$Roots" "part" "[I") ∈ ga_Gl := ga_t 98 (by decide +kernel) rfl
theorem fl_X5_21 : (Cond.fieldLink "RecurrenceAnswers$Roots" (21 : Nat) "RecurrenceAnswers$Roots" "piece" "[I") ∈ ga_Gl := ga_t 99 (by decide +kernel) rfl
theorem fl_X5_24 : (Cond.fieldLink "RecurrenceAnswers$Roots" (24 : Nat) "RecurrenceAnswers$Roots" "power" "[I") ∈ ga_Gl := ga_t 100 (by decide +kernel) rfl
theorem fl_X5_27 : (Cond.fieldLink "RecurrenceAnswers$Roots" (27 : Nat) "RecurrenceAnswers$Roots" "square" "[I") ∈ ga_Gl := ga_t 101 (by decide +kernel) rfl
theorem fl_X5_30 : (Cond.fieldLink "RecurrenceAnswers$Roots" (30 : Nat) "RecurrenceAnswers$Roots" "count" "I") ∈ ga_Gl := ga_t 102 (by decide +kernel) rfl
theorem fl_X0_82 : (Cond.fieldLink "RecurrenceAnswers$Answers" (82 : Nat) "RecurrenceAnswers$Roots" "count" "I") ∈ ga_Gl := ga_t 103 (by decide +kernel) rfl
theorem cl_X0_22 : (Cond.classLink "RecurrenceAnswers$Answers" (22 : Nat) "RecurrenceAnswers$Row") ∈ ga_Gl := ga_t 119 (by decide +kernel) rfl
theorem wn_X6 : (Cond.instantiable "RecurrenceAnswers$Row" (2 : Nat)) ∈ ga_Gl := ga_t 120 (by decide +kernel) rfl
theorem im_X6_init : (Cond.instanceMethod ({ cls := "RecurrenceAnswers$Row", name := "<init>", desc := "()V" } : MethodName)) ∈ ga_Gl := ga_t 122 (by decide +kernel) rfl
theorem cw_X6_init : (Cond.code ({ cls := "RecurrenceAnswers$Row", name := "<init>", desc := "()V" } : MethodName) prog_8_method_1_code (1 : Nat) (Option.none : Option FieldType)) ∈ ga_Gl := ga_t 123 (by decide +kernel) rfl
theorem ml_X6_3 : (Cond.methodLink "RecurrenceAnswers$Row" (3 : Nat) ({ cls := "java/lang/Object", name := "<init>", desc := "()V" } : MethodName)) ∈ ga_Gl := ga_t 124 (by decide +kernel) rfl
theorem fl_X6_9 : (Cond.fieldLink "RecurrenceAnswers$Row" (9 : Nat) "RecurrenceAnswers$Row" "numbers" "[I") ∈ ga_Gl := ga_t 125 (by decide +kernel) rfl
theorem fl_X0_89 : (Cond.fieldLink "RecurrenceAnswers$Answers" (89 : Nat) "RecurrenceAnswers$Row" "size" "I") ∈ ga_Gl := ga_t 126 (by decide +kernel) rfl
theorem fl_X8_124 : (Cond.fieldLink "RecurrenceAnswers" (124 : Nat) "RecurrenceAnswers$Row" "size" "I") ∈ ga_Gl := ga_t 127 (by decide +kernel) rfl
theorem fl_X2_72 : (Cond.fieldLink "RecurrenceAnswers$LinearSystem" (72 : Nat) "RecurrenceAnswers$Row" "size" "I") ∈ ga_Gl := ga_t 128 (by decide +kernel) rfl
theorem fl_X0_39 : (Cond.fieldLink "RecurrenceAnswers$Answers" (39 : Nat) "RecurrenceAnswers$Answers" "system" "LRecurrenceAnswers$LinearSystem;") ∈ ga_Gl := ga_t 135 (by decide +kernel) rfl
theorem fl_X0_12 : (Cond.fieldLink "RecurrenceAnswers$Answers" (12 : Nat) "RecurrenceAnswers$Answers" "candidates" "LRecurrenceAnswers$Roots;") ∈ ga_Gl := ga_t 136 (by decide +kernel) rfl
theorem fl_X0_18 : (Cond.fieldLink "RecurrenceAnswers$Answers" (18 : Nat) "RecurrenceAnswers$Answers" "topNumbers" "[I") ∈ ga_Gl := ga_t 137 (by decide +kernel) rfl
theorem fl_X0_72 : (Cond.fieldLink "RecurrenceAnswers$Answers" (72 : Nat) "RecurrenceAnswers$Answers" "known" "Z") ∈ ga_Gl := ga_t 138 (by decide +kernel) rfl
theorem fl_X8_109 : (Cond.fieldLink "RecurrenceAnswers" (109 : Nat) "RecurrenceAnswers$Answers" "known" "Z") ∈ ga_Gl := ga_t 139 (by decide +kernel) rfl
theorem fl_X0_25 : (Cond.fieldLink "RecurrenceAnswers$Answers" (25 : Nat) "RecurrenceAnswers$Answers" "row" "LRecurrenceAnswers$Row;") ∈ ga_Gl := ga_t 140 (by decide +kernel) rfl
theorem fl_X8_120 : (Cond.fieldLink "RecurrenceAnswers" (120 : Nat) "RecurrenceAnswers$Answers" "row" "LRecurrenceAnswers$Row;") ∈ ga_Gl := ga_t 141 (by decide +kernel) rfl
theorem fl_X0_64 : (Cond.fieldLink "RecurrenceAnswers$Answers" (64 : Nat) "RecurrenceAnswers$Answers" "hasParticular" "Z") ∈ ga_Gl := ga_t 142 (by decide +kernel) rfl
theorem fl_X8_132 : (Cond.fieldLink "RecurrenceAnswers" (132 : Nat) "RecurrenceAnswers$Answers" "hasParticular" "Z") ∈ ga_Gl := ga_t 143 (by decide +kernel) rfl
theorem fl_X0_29 : (Cond.fieldLink "RecurrenceAnswers$Answers" (29 : Nat) "RecurrenceAnswers$Answers" "particular" "[I") ∈ ga_Gl := ga_t 144 (by decide +kernel) rfl
theorem fl_X8_135 : (Cond.fieldLink "RecurrenceAnswers" (135 : Nat) "RecurrenceAnswers$Answers" "particular" "[I") ∈ ga_Gl := ga_t 145 (by decide +kernel) rfl
theorem fl_X0_43 : (Cond.fieldLink "RecurrenceAnswers$Answers" (43 : Nat) "RecurrenceAnswers$Answers" "baseCount" "I") ∈ ga_Gl := ga_t 146 (by decide +kernel) rfl
theorem fl_X8_143 : (Cond.fieldLink "RecurrenceAnswers" (143 : Nat) "RecurrenceAnswers$Answers" "baseCount" "I") ∈ ga_Gl := ga_t 147 (by decide +kernel) rfl
theorem fl_X0_32 : (Cond.fieldLink "RecurrenceAnswers$Answers" (32 : Nat) "RecurrenceAnswers$Answers" "bases" "[I") ∈ ga_Gl := ga_t 148 (by decide +kernel) rfl
theorem fl_X8_150 : (Cond.fieldLink "RecurrenceAnswers" (150 : Nat) "RecurrenceAnswers$Answers" "bases" "[I") ∈ ga_Gl := ga_t 149 (by decide +kernel) rfl
theorem fl_X0_35 : (Cond.fieldLink "RecurrenceAnswers$Answers" (35 : Nat) "RecurrenceAnswers$Answers" "baseRows" "[LRecurrenceAnswers$Row;") ∈ ga_Gl := ga_t 150 (by decide +kernel) rfl
theorem fl_X8_153 : (Cond.fieldLink "RecurrenceAnswers" (153 : Nat) "RecurrenceAnswers$Answers" "baseRows" "[LRecurrenceAnswers$Row;") ∈ ga_Gl := ga_t 151 (by decide +kernel) rfl
theorem cl_X8_43 : (Cond.classLink "RecurrenceAnswers" (43 : Nat) "RecurrenceAnswers$Values") ∈ ga_Gl := ga_t 173 (by decide +kernel) rfl
theorem wn_X7 : (Cond.instantiable "RecurrenceAnswers$Values" (3 : Nat)) ∈ ga_Gl := ga_t 174 (by decide +kernel) rfl
theorem im_X7_init : (Cond.instanceMethod ({ cls := "RecurrenceAnswers$Values", name := "<init>", desc := "()V" } : MethodName)) ∈ ga_Gl := ga_t 176 (by decide +kernel) rfl
theorem cw_X7_init : (Cond.code ({ cls := "RecurrenceAnswers$Values", name := "<init>", desc := "()V" } : MethodName) prog_9_method_1_code (1 : Nat) (Option.none : Option FieldType)) ∈ ga_Gl := ga_t 177 (by decide +kernel) rfl
theorem ml_X7_3 : (Cond.methodLink "RecurrenceAnswers$Values" (3 : Nat) ({ cls := "java/lang/Object", name := "<init>", desc := "()V" } : MethodName)) ∈ ga_Gl := ga_t 178 (by decide +kernel) rfl
theorem fl_X7_9 : (Cond.fieldLink "RecurrenceAnswers$Values" (9 : Nat) "RecurrenceAnswers$Values" "numbers" "[I") ∈ ga_Gl := ga_t 179 (by decide +kernel) rfl
theorem fl_X7_15 : (Cond.fieldLink "RecurrenceAnswers$Values" (15 : Nat) "RecurrenceAnswers$Values" "starts" "I") ∈ ga_Gl := ga_t 180 (by decide +kernel) rfl
theorem fl_X7_19 : (Cond.fieldLink "RecurrenceAnswers$Values" (19 : Nat) "RecurrenceAnswers$Values" "known" "I") ∈ ga_Gl := ga_t 181 (by decide +kernel) rfl
theorem cl_X8_50 : (Cond.classLink "RecurrenceAnswers" (50 : Nat) "RecurrenceAnswers$Roots") ∈ ga_Gl := ga_t 189 (by decide +kernel) rfl
theorem fl_X8_23 : (Cond.fieldLink "RecurrenceAnswers" (23 : Nat) "RecurrenceAnswers" "equation" "LRecurrenceAnswers$Equation;") ∈ ga_Gl := ga_t 191 (by decide +kernel) rfl
theorem fl_X8_30 : (Cond.fieldLink "RecurrenceAnswers" (30 : Nat) "RecurrenceAnswers" "system" "LRecurrenceAnswers$LinearSystem;") ∈ ga_Gl := ga_t 192 (by decide +kernel) rfl
theorem fl_X8_39 : (Cond.fieldLink "RecurrenceAnswers" (39 : Nat) "RecurrenceAnswers" "answers" "LRecurrenceAnswers$Answers;") ∈ ga_Gl := ga_t 193 (by decide +kernel) rfl
theorem fl_X8_46 : (Cond.fieldLink "RecurrenceAnswers" (46 : Nat) "RecurrenceAnswers" "values" "LRecurrenceAnswers$Values;") ∈ ga_Gl := ga_t 194 (by decide +kernel) rfl
theorem fl_X8_53 : (Cond.fieldLink "RecurrenceAnswers" (53 : Nat) "RecurrenceAnswers" "zeros" "LRecurrenceAnswers$Roots;") ∈ ga_Gl := ga_t 195 (by decide +kernel) rfl
theorem fl_X8_166 : (Cond.fieldLink "RecurrenceAnswers" (166 : Nat) "RecurrenceAnswers" "zerosKnown" "Z") ∈ ga_Gl := ga_t 196 (by decide +kernel) rfl
theorem fl_X8_57 : (Cond.fieldLink "RecurrenceAnswers" (57 : Nat) "RecurrenceAnswers" "trial" "[I") ∈ ga_Gl := ga_t 197 (by decide +kernel) rfl
theorem ml_L_89 : (Cond.methodLink "RecurrenceAnswersLaw" (89 : Nat) ({ cls := "RecurrenceAnswers", name := "run", desc := "()I" } : MethodName)) ∈ ga_Gl := ga_t 213 (by decide +kernel) rfl
theorem im_X8_run : (Cond.instanceMethod ({ cls := "RecurrenceAnswers", name := "run", desc := "()I" } : MethodName)) ∈ ga_Gl := ga_t 214 (by decide +kernel) rfl
theorem sl_X8_run : (Cond.selects "RecurrenceAnswers" ({ cls := "RecurrenceAnswers", name := "run", desc := "()I" } : MethodName) ({ cls := "RecurrenceAnswers", name := "run", desc := "()I" } : MethodName)) ∈ ga_Gl := ga_t 215 (by decide +kernel) rfl
theorem cw_X8_run : (Cond.code ({ cls := "RecurrenceAnswers", name := "run", desc := "()I" } : MethodName) prog_1_method_4_code (1 : Nat) (Option.some FieldType.int)) ∈ ga_Gl := ga_t 216 (by decide +kernel) rfl
theorem ml_X8_105 : (Cond.methodLink "RecurrenceAnswers" (105 : Nat) ({ cls := "RecurrenceAnswers$Equation", name := "greatestShift", desc := "()I" } : MethodName)) ∈ ga_Gl := ga_t 217 (by decide +kernel) rfl
theorem im_X1_greatestShift : (Cond.instanceMethod ({ cls := "RecurrenceAnswers$Equation", name := "greatestShift", desc := "()I" } : MethodName)) ∈ ga_Gl := ga_t 218 (by decide +kernel) rfl
theorem sl_X1_greatestShift : (Cond.selects "RecurrenceAnswers$Equation" ({ cls := "RecurrenceAnswers$Equation", name := "greatestShift", desc := "()I" } : MethodName) ({ cls := "RecurrenceAnswers$Equation", name := "greatestShift", desc := "()I" } : MethodName)) ∈ ga_Gl := ga_t 219 (by decide +kernel) rfl
theorem cw_X1_greatestShift : (Cond.code ({ cls := "RecurrenceAnswers$Equation", name := "greatestShift", desc := "()I" } : MethodName) prog_3_method_3_code (2 : Nat) (Option.some FieldType.int)) ∈ ga_Gl := ga_t 220 (by decide +kernel) rfl
theorem ml_X1_24 : (Cond.methodLink "RecurrenceAnswers$Equation" (24 : Nat) ({ cls := "RecurrenceAnswers$Polynomials", name := "degree", desc := "([I)I" } : MethodName)) ∈ ga_Gl := ga_t 221 (by decide +kernel) rfl
theorem sm_X4_degree : (Cond.static ({ cls := "RecurrenceAnswers$Polynomials", name := "degree", desc := "([I)I" } : MethodName)) ∈ ga_Gl := ga_t 222 (by decide +kernel) rfl
theorem cw_X4_degree : (Cond.code ({ cls := "RecurrenceAnswers$Polynomials", name := "degree", desc := "([I)I" } : MethodName) prog_6_method_2_code (2 : Nat) (Option.some FieldType.int)) ∈ ga_Gl := ga_t 223 (by decide +kernel) rfl
theorem ml_X8_113 : (Cond.methodLink "RecurrenceAnswers" (113 : Nat) ({ cls := "RecurrenceAnswers$Answers", name := "find", desc := "(LRecurrenceAnswers$Equation;)V" } : MethodName)) ∈ ga_Gl := ga_t 224 (by decide +kernel) rfl
theorem im_X0_find : (Cond.instanceMethod ({ cls := "RecurrenceAnswers$Answers", name := "find", desc := "(LRecurrenceAnswers$Equation;)V" } : MethodName)) ∈ ga_Gl := ga_t 225 (by decide +kernel) rfl
theorem sl_X0_find : (Cond.selects "RecurrenceAnswers$Answers" ({ cls := "RecurrenceAnswers$Answers", name := "find", desc := "(LRecurrenceAnswers$Equation;)V" } : MethodName) ({ cls := "RecurrenceAnswers$Answers", name := "find", desc := "(LRecurrenceAnswers$Equation;)V" } : MethodName)) ∈ ga_Gl := ga_t 226 (by decide +kernel) rfl
theorem cw_X0_find : (Cond.code ({ cls := "RecurrenceAnswers$Answers", name := "find", desc := "(LRecurrenceAnswers$Equation;)V" } : MethodName) prog_2_method_3_code (2 : Nat) (Option.none : Option FieldType)) ∈ ga_Gl := ga_t 227 (by decide +kernel) rfl
theorem ml_X0_47 : (Cond.methodLink "RecurrenceAnswers$Answers" (47 : Nat) ({ cls := "RecurrenceAnswers$LinearSystem", name := "fill", desc := "(LRecurrenceAnswers$Equation;I)V" } : MethodName)) ∈ ga_Gl := ga_t 228 (by decide +kernel) rfl
theorem im_X2_fill : (Cond.instanceMethod ({ cls := "RecurrenceAnswers$LinearSystem", name := "fill", desc := "(LRecurrenceAnswers$Equation;I)V" } : MethodName)) ∈ ga_Gl := ga_t 229 (by decide +kernel) rfl
theorem sl_X2_fill : (Cond.selects "RecurrenceAnswers$LinearSystem" ({ cls := "RecurrenceAnswers$LinearSystem", name := "fill", desc := "(LRecurrenceAnswers$Equation;I)V" } : MethodName) ({ cls := "RecurrenceAnswers$LinearSystem", name := "fill", desc := "(LRecurrenceAnswers$Equation;I)V" } : MethodName)) ∈ ga_Gl := ga_t 230 (by decide +kernel) rfl
theorem cw_X2_fill : (Cond.code ({ cls := "RecurrenceAnswers$LinearSystem", name := "fill", desc := "(LRecurrenceAnswers$Equation;I)V" } : MethodName) prog_4_method_2_code (5 : Nat) (Option.none : Option FieldType)) ∈ ga_Gl := ga_t 231 (by decide +kernel) rfl
theorem ml_X2_35 : (Cond.methodLink "RecurrenceAnswers$LinearSystem" (35 : Nat) ({ cls := "RecurrenceAnswers$LinearSystem", name := "addFactor", desc := "([III)V" } : MethodName)) ∈ ga_Gl := ga_t 232 (by decide +kernel) rfl
theorem im_X2_addFactor : (Cond.instanceMethod ({ cls := "RecurrenceAnswers$LinearSystem", name := "addFactor", desc := "([III)V" } : MethodName)) ∈ ga_Gl := ga_t 234 (by decide +kernel) rfl
theorem cw_X2_addFactor : (Cond.code ({ cls := "RecurrenceAnswers$LinearSystem", name := "addFactor", desc := "([III)V" } : MethodName) prog_4_method_3_code (6 : Nat) (Option.none : Option FieldType)) ∈ ga_Gl := ga_t 235 (by decide +kernel) rfl
theorem ml_X2_39 : (Cond.methodLink "RecurrenceAnswers$LinearSystem" (39 : Nat) ({ cls := "RecurrenceAnswers$Polynomials", name := "degree", desc := "([I)I" } : MethodName)) ∈ ga_Gl := ga_t 236 (by decide +kernel) rfl
theorem ml_X2_45 : (Cond.methodLink "RecurrenceAnswers$LinearSystem" (45 : Nat) ({ cls := "RecurrenceAnswers$Polynomials", name := "multiplyByLinear", desc := "([II)V" } : MethodName)) ∈ ga_Gl := ga_t 237 (by decide +kernel) rfl
theorem sm_X4_multiplyByLinear : (Cond.static ({ cls := "RecurrenceAnswers$Polynomials", name := "multiplyByLinear", desc := "([II)V" } : MethodName)) ∈ ga_Gl := ga_t 238 (by decide +kernel) rfl
theorem cw_X4_multiplyByLinear : (Cond.code ({ cls := "RecurrenceAnswers$Polynomials", name := "multiplyByLinear", desc := "([II)V" } : MethodName) prog_6_method_5_code (3 : Nat) (Option.none : Option FieldType)) ∈ ga_Gl := ga_t 239 (by decide +kernel) rfl
theorem ml_X0_53 : (Cond.methodLink "RecurrenceAnswers$Answers" (53 : Nat) ({ cls := "RecurrenceAnswers$LinearSystem", name := "eliminate", desc := "()V" } : MethodName)) ∈ ga_Gl := ga_t 240 (by decide +kernel) rfl
theorem im_X2_eliminate : (Cond.instanceMethod ({ cls := "RecurrenceAnswers$LinearSystem", name := "eliminate", desc := "()V" } : MethodName)) ∈ ga_Gl := ga_t 241 (by decide +kernel) rfl
theorem sl_X2_eliminate : (Cond.selects "RecurrenceAnswers$LinearSystem" ({ cls := "RecurrenceAnswers$LinearSystem", name := "eliminate", desc := "()V" } : MethodName) ({ cls := "RecurrenceAnswers$LinearSystem", name := "eliminate", desc := "()V" } : MethodName)) ∈ ga_Gl := ga_t 242 (by decide +kernel) rfl
theorem cw_X2_eliminate : (Cond.code ({ cls := "RecurrenceAnswers$LinearSystem", name := "eliminate", desc := "()V" } : MethodName) prog_4_method_5_code (3 : Nat) (Option.none : Option FieldType)) ∈ ga_Gl := ga_t 243 (by decide +kernel) rfl
theorem ml_X2_55 : (Cond.methodLink "RecurrenceAnswers$LinearSystem" (55 : Nat) ({ cls := "RecurrenceAnswers$LinearSystem", name := "freeLine", desc := "(I)I" } : MethodName)) ∈ ga_Gl := ga_t 244 (by decide +kernel) rfl
theorem im_X2_freeLine : (Cond.instanceMethod ({ cls := "RecurrenceAnswers$LinearSystem", name := "freeLine", desc := "(I)I" } : MethodName)) ∈ ga_Gl := ga_t 246 (by decide +kernel) rfl
theorem cw_X2_freeLine : (Cond.code ({ cls := "RecurrenceAnswers$LinearSystem", name := "freeLine", desc := "(I)I" } : MethodName) prog_4_method_6_code (3 : Nat) (Option.some FieldType.int)) ∈ ga_Gl := ga_t 247 (by decide +kernel) rfl
theorem ml_X2_58 : (Cond.methodLink "RecurrenceAnswers$LinearSystem" (58 : Nat) ({ cls := "RecurrenceAnswers$Numbers", name := "inverse", desc := "(I)I" } : MethodName)) ∈ ga_Gl := ga_t 248 (by decide +kernel) rfl
theorem sm_X3_inverse : (Cond.static ({ cls := "RecurrenceAnswers$Numbers", name := "inverse", desc := "(I)I" } : MethodName)) ∈ ga_Gl := ga_t 249 (by decide +kernel) rfl
theorem cw_X3_inverse : (Cond.code ({ cls := "RecurrenceAnswers$Numbers", name := "inverse", desc := "(I)I" } : MethodName) prog_5_method_3_code (4 : Nat) (Option.some FieldType.int)) ∈ ga_Gl := ga_t 250 (by decide +kernel) rfl
theorem ml_X2_61 : (Cond.methodLink "RecurrenceAnswers$LinearSystem" (61 : Nat) ({ cls := "RecurrenceAnswers$LinearSystem", name := "scaleLine", desc := "(II)V" } : MethodName)) ∈ ga_Gl := ga_t 251 (by decide +kernel) rfl
theorem im_X2_scaleLine : (Cond.instanceMethod ({ cls := "RecurrenceAnswers$LinearSystem", name := "scaleLine", desc := "(II)V" } : MethodName)) ∈ ga_Gl := ga_t 253 (by decide +kernel) rfl
theorem cw_X2_scaleLine : (Cond.code ({ cls := "RecurrenceAnswers$LinearSystem", name := "scaleLine", desc := "(II)V" } : MethodName) prog_4_method_7_code (4 : Nat) (Option.none : Option FieldType)) ∈ ga_Gl := ga_t 254 (by decide +kernel) rfl
theorem ml_X2_65 : (Cond.methodLink "RecurrenceAnswers$LinearSystem" (65 : Nat) ({ cls := "RecurrenceAnswers$LinearSystem", name := "clearColumn", desc := "(II)V" } : MethodName)) ∈ ga_Gl := ga_t 255 (by decide +kernel) rfl
theorem im_X2_clearColumn : (Cond.instanceMethod ({ cls := "RecurrenceAnswers$LinearSystem", name := "clearColumn", desc := "(II)V" } : MethodName)) ∈ ga_Gl := ga_t 257 (by decide +kernel) rfl
theorem cw_X2_clearColumn : (Cond.code ({ cls := "RecurrenceAnswers$LinearSystem", name := "clearColumn", desc := "(II)V" } : MethodName) prog_4_method_8_code (6 : Nat) (Option.none : Option FieldType)) ∈ ga_Gl := ga_t 258 (by decide +kernel) rfl
theorem ml_X2_68 : (Cond.methodLink "RecurrenceAnswers$LinearSystem" (68 : Nat) ({ cls := "RecurrenceAnswers$Numbers", name := "less", desc := "(III)I" } : MethodName)) ∈ ga_Gl := ga_t 259 (by decide +kernel) rfl
theorem sm_X3_less : (Cond.static ({ cls := "RecurrenceAnswers$Numbers", name := "less", desc := "(III)I" } : MethodName)) ∈ ga_Gl := ga_t 260 (by decide +kernel) rfl
theorem cw_X3_less : (Cond.code ({ cls := "RecurrenceAnswers$Numbers", name := "less", desc := "(III)I" } : MethodName) prog_5_method_6_code (4 : Nat) (Option.some FieldType.int)) ∈ ga_Gl := ga_t 261 (by decide +kernel) rfl
theorem ml_X0_56 : (Cond.methodLink "RecurrenceAnswers$Answers" (56 : Nat) ({ cls := "RecurrenceAnswers$LinearSystem", name := "copyRowTo", desc := "(LRecurrenceAnswers$Row;)V" } : MethodName)) ∈ ga_Gl := ga_t 262 (by decide +kernel) rfl
theorem im_X2_copyRowTo : (Cond.instanceMethod ({ cls := "RecurrenceAnswers$LinearSystem", name := "copyRowTo", desc := "(LRecurrenceAnswers$Row;)V" } : MethodName)) ∈ ga_Gl := ga_t 263 (by decide +kernel) rfl
theorem sl_X2_copyRowTo : (Cond.selects "RecurrenceAnswers$LinearSystem" ({ cls := "RecurrenceAnswers$LinearSystem", name := "copyRowTo", desc := "(LRecurrenceAnswers$Row;)V" } : MethodName) ({ cls := "RecurrenceAnswers$LinearSystem", name := "copyRowTo", desc := "(LRecurrenceAnswers$Row;)V" } : MethodName)) ∈ ga_Gl := ga_t 264 (by decide +kernel) rfl
theorem cw_X2_copyRowTo : (Cond.code ({ cls := "RecurrenceAnswers$LinearSystem", name := "copyRowTo", desc := "(LRecurrenceAnswers$Row;)V" } : MethodName) prog_4_method_9_code (6 : Nat) (Option.none : Option FieldType)) ∈ ga_Gl := ga_t 265 (by decide +kernel) rfl
theorem ml_X2_49 : (Cond.methodLink "RecurrenceAnswers$LinearSystem" (49 : Nat) ({ cls := "RecurrenceAnswers$Numbers", name := "negative", desc := "(I)I" } : MethodName)) ∈ ga_Gl := ga_t 266 (by decide +kernel) rfl
theorem sm_X3_negative : (Cond.static ({ cls := "RecurrenceAnswers$Numbers", name := "negative", desc := "(I)I" } : MethodName)) ∈ ga_Gl := ga_t 267 (by decide +kernel) rfl
theorem cw_X3_negative : (Cond.code ({ cls := "RecurrenceAnswers$Numbers", name := "negative", desc := "(I)I" } : MethodName) prog_5_method_5_code (1 : Nat) (Option.some FieldType.int)) ∈ ga_Gl := ga_t 268 (by decide +kernel) rfl
theorem ml_X2_78 : (Cond.methodLink "RecurrenceAnswers$LinearSystem" (78 : Nat) ({ cls := "RecurrenceAnswers$Row", name := "setNumberAt", desc := "(III)V" } : MethodName)) ∈ ga_Gl := ga_t 269 (by decide +kernel) rfl
theorem im_X6_setNumberAt : (Cond.instanceMethod ({ cls := "RecurrenceAnswers$Row", name := "setNumberAt", desc := "(III)V" } : MethodName)) ∈ ga_Gl := ga_t 270 (by decide +kernel) rfl
theorem sl_X6_setNumberAt : (Cond.selects "RecurrenceAnswers$Row" ({ cls := "RecurrenceAnswers$Row", name := "setNumberAt", desc := "(III)V" } : MethodName) ({ cls := "RecurrenceAnswers$Row", name := "setNumberAt", desc := "(III)V" } : MethodName)) ∈ ga_Gl := ga_t 271 (by decide +kernel) rfl
theorem cw_X6_setNumberAt : (Cond.code ({ cls := "RecurrenceAnswers$Row", name := "setNumberAt", desc := "(III)V" } : MethodName) prog_8_method_3_code (5 : Nat) (Option.none : Option FieldType)) ∈ ga_Gl := ga_t 272 (by decide +kernel) rfl
theorem ml_X0_60 : (Cond.methodLink "RecurrenceAnswers$Answers" (60 : Nat) ({ cls := "RecurrenceAnswers$LinearSystem", name := "copyParticularTo", desc := "([I)Z" } : MethodName)) ∈ ga_Gl := ga_t 273 (by decide +kernel) rfl
theorem im_X2_copyParticularTo : (Cond.instanceMethod ({ cls := "RecurrenceAnswers$LinearSystem", name := "copyParticularTo", desc := "([I)Z" } : MethodName)) ∈ ga_Gl := ga_t 274 (by decide +kernel) rfl
theorem sl_X2_copyParticularTo : (Cond.selects "RecurrenceAnswers$LinearSystem" ({ cls := "RecurrenceAnswers$LinearSystem", name := "copyParticularTo", desc := "([I)Z" } : MethodName) ({ cls := "RecurrenceAnswers$LinearSystem", name := "copyParticularTo", desc := "([I)Z" } : MethodName)) ∈ ga_Gl := ga_t 275 (by decide +kernel) rfl
theorem cw_X2_copyParticularTo : (Cond.code ({ cls := "RecurrenceAnswers$LinearSystem", name := "copyParticularTo", desc := "([I)Z" } : MethodName) prog_4_method_10_code (4 : Nat) (Option.some FieldType.boolean)) ∈ ga_Gl := ga_t 276 (by decide +kernel) rfl
theorem ml_X0_68 : (Cond.methodLink "RecurrenceAnswers$Answers" (68 : Nat) ({ cls := "RecurrenceAnswers$Answers", name := "findBases", desc := "(LRecurrenceAnswers$Equation;)V" } : MethodName)) ∈ ga_Gl := ga_t 277 (by decide +kernel) rfl
theorem im_X0_findBases : (Cond.instanceMethod ({ cls := "RecurrenceAnswers$Answers", name := "findBases", desc := "(LRecurrenceAnswers$Equation;)V" } : MethodName)) ∈ ga_Gl := ga_t 279 (by decide +kernel) rfl
theorem cw_X0_findBases : (Cond.code ({ cls := "RecurrenceAnswers$Answers", name := "findBases", desc := "(LRecurrenceAnswers$Equation;)V" } : MethodName) prog_2_method_4_code (4 : Nat) (Option.none : Option FieldType)) ∈ ga_Gl := ga_t 280 (by decide +kernel) rfl
theorem ml_X0_75 : (Cond.methodLink "RecurrenceAnswers$Answers" (75 : Nat) ({ cls := "RecurrenceAnswers$Answers", name := "collectTopNumbers", desc := "(LRecurrenceAnswers$Equation;)V" } : MethodName)) ∈ ga_Gl := ga_t 281 (by decide +kernel) rfl
theorem im_X0_collectTopNumbers : (Cond.instanceMethod ({ cls := "RecurrenceAnswers$Answers", name := "collectTopNumbers", desc := "(LRecurrenceAnswers$Equation;)V" } : MethodName)) ∈ ga_Gl := ga_t 283 (by decide +kernel) rfl
theorem cw_X0_collectTopNumbers : (Cond.code ({ cls := "RecurrenceAnswers$Answers", name := "collectTopNumbers", desc := "(LRecurrenceAnswers$Equation;)V" } : MethodName) prog_2_method_5_code (5 : Nat) (Option.none : Option FieldType)) ∈ ga_Gl := ga_t 284 (by decide +kernel) rfl
theorem ml_X0_92 : (Cond.methodLink "RecurrenceAnswers$Answers" (92 : Nat) ({ cls := "RecurrenceAnswers$Equation", name := "greatestDegree", desc := "()I" } : MethodName)) ∈ ga_Gl := ga_t 285 (by decide +kernel) rfl
theorem im_X1_greatestDegree : (Cond.instanceMethod ({ cls := "RecurrenceAnswers$Equation", name := "greatestDegree", desc := "()I" } : MethodName)) ∈ ga_Gl := ga_t 286 (by decide +kernel) rfl
theorem sl_X1_greatestDegree : (Cond.selects "RecurrenceAnswers$Equation" ({ cls := "RecurrenceAnswers$Equation", name := "greatestDegree", desc := "()I" } : MethodName) ({ cls := "RecurrenceAnswers$Equation", name := "greatestDegree", desc := "()I" } : MethodName)) ∈ ga_Gl := ga_t 287 (by decide +kernel) rfl
theorem cw_X1_greatestDegree : (Cond.code ({ cls := "RecurrenceAnswers$Equation", name := "greatestDegree", desc := "()I" } : MethodName) prog_3_method_4_code (3 : Nat) (Option.some FieldType.int)) ∈ ga_Gl := ga_t 288 (by decide +kernel) rfl
theorem ml_X1_30 : (Cond.methodLink "RecurrenceAnswers$Equation" (30 : Nat) ({ cls := "java/lang/Math", name := "max", desc := "(II)I" } : MethodName)) ∈ ga_Gl := ga_t 289 (by decide +kernel) rfl
theorem ml_X0_78 : (Cond.methodLink "RecurrenceAnswers$Answers" (78 : Nat) ({ cls := "RecurrenceAnswers$Roots", name := "find", desc := "([I)V" } : MethodName)) ∈ ga_Gl := ga_t 290 (by decide +kernel) rfl
theorem im_X5_find : (Cond.instanceMethod ({ cls := "RecurrenceAnswers$Roots", name := "find", desc := "([I)V" } : MethodName)) ∈ ga_Gl := ga_t 291 (by decide +kernel) rfl
theorem sl_X5_find : (Cond.selects "RecurrenceAnswers$Roots" ({ cls := "RecurrenceAnswers$Roots", name := "find", desc := "([I)V" } : MethodName) ({ cls := "RecurrenceAnswers$Roots", name := "find", desc := "([I)V" } : MethodName)) ∈ ga_Gl := ga_t 292 (by decide +kernel) rfl
theorem cw_X5_find : (Cond.code ({ cls := "RecurrenceAnswers$Roots", name := "find", desc := "([I)V" } : MethodName) prog_7_method_3_code (4 : Nat) (Option.none : Option FieldType)) ∈ ga_Gl := ga_t 293 (by decide +kernel) rfl
theorem ml_X5_34 : (Cond.methodLink "RecurrenceAnswers$Roots" (34 : Nat) ({ cls := "RecurrenceAnswers$Polynomials", name := "makeMonic", desc := "([I)V" } : MethodName)) ∈ ga_Gl := ga_t 294 (by decide +kernel) rfl
theorem sm_X4_makeMonic : (Cond.static ({ cls := "RecurrenceAnswers$Polynomials", name := "makeMonic", desc := "([I)V" } : MethodName)) ∈ ga_Gl := ga_t 295 (by decide +kernel) rfl
theorem cw_X4_makeMonic : (Cond.code ({ cls := "RecurrenceAnswers$Polynomials", name := "makeMonic", desc := "([I)V" } : MethodName) prog_6_method_4_code (4 : Nat) (Option.none : Option FieldType)) ∈ ga_Gl := ga_t 296 (by decide +kernel) rfl
theorem ml_X4_9 : (Cond.methodLink "RecurrenceAnswers$Polynomials" (9 : Nat) ({ cls := "RecurrenceAnswers$Polynomials", name := "degree", desc := "([I)I" } : MethodName)) ∈ ga_Gl := ga_t 297 (by decide +kernel) rfl
theorem ml_X4_15 : (Cond.methodLink "RecurrenceAnswers$Polynomials" (15 : Nat) ({ cls := "RecurrenceAnswers$Numbers", name := "inverse", desc := "(I)I" } : MethodName)) ∈ ga_Gl := ga_t 298 (by decide +kernel) rfl
theorem ml_X5_40 : (Cond.methodLink "RecurrenceAnswers$Roots" (40 : Nat) ({ cls := "RecurrenceAnswers$Roots", name := "keepSimpleRoots", desc := "()V" } : MethodName)) ∈ ga_Gl := ga_t 299 (by decide +kernel) rfl
theorem im_X5_keepSimpleRoots : (Cond.instanceMethod ({ cls := "RecurrenceAnswers$Roots", name := "keepSimpleRoots", desc := "()V" } : MethodName)) ∈ ga_Gl := ga_t 301 (by decide +kernel) rfl
theorem cw_X5_keepSimpleRoots : (Cond.code ({ cls := "RecurrenceAnswers$Roots", name := "keepSimpleRoots", desc := "()V" } : MethodName) prog_7_method_4_code (1 : Nat) (Option.none : Option FieldType)) ∈ ga_Gl := ga_t 302 (by decide +kernel) rfl
theorem ml_X5_43 : (Cond.methodLink "RecurrenceAnswers$Roots" (43 : Nat) ({ cls := "RecurrenceAnswers$Polynomials", name := "degree", desc := "([I)I" } : MethodName)) ∈ ga_Gl := ga_t 303 (by decide +kernel) rfl
theorem ml_X5_58 : (Cond.methodLink "RecurrenceAnswers$Roots" (58 : Nat) ({ cls := "RecurrenceAnswers$Roots", name := "raiseLinear", desc := "(II[I)V" } : MethodName)) ∈ ga_Gl := ga_t 304 (by decide +kernel) rfl
theorem im_X5_raiseLinear : (Cond.instanceMethod ({ cls := "RecurrenceAnswers$Roots", name := "raiseLinear", desc := "(II[I)V" } : MethodName)) ∈ ga_Gl := ga_t 306 (by decide +kernel) rfl
theorem cw_X5_raiseLinear : (Cond.code ({ cls := "RecurrenceAnswers$Roots", name := "raiseLinear", desc := "(II[I)V" } : MethodName) prog_7_method_6_code (5 : Nat) (Option.none : Option FieldType)) ∈ ga_Gl := ga_t 307 (by decide +kernel) rfl
theorem ml_X5_82 : (Cond.methodLink "RecurrenceAnswers$Roots" (82 : Nat) ({ cls := "RecurrenceAnswers$Roots", name := "squarePower", desc := "([I)V" } : MethodName)) ∈ ga_Gl := ga_t 308 (by decide +kernel) rfl
theorem im_X5_squarePower : (Cond.instanceMethod ({ cls := "RecurrenceAnswers$Roots", name := "squarePower", desc := "([I)V" } : MethodName)) ∈ ga_Gl := ga_t 310 (by decide +kernel) rfl
theorem cw_X5_squarePower : (Cond.code ({ cls := "RecurrenceAnswers$Roots", name := "squarePower", desc := "([I)V" } : MethodName) prog_7_method_7_code (5 : Nat) (Option.none : Option FieldType)) ∈ ga_Gl := ga_t 311 (by decide +kernel) rfl
theorem ml_X5_89 : (Cond.methodLink "RecurrenceAnswers$Roots" (89 : Nat) ({ cls := "RecurrenceAnswers$Polynomials", name := "reduceBy", desc := "([I[I)V" } : MethodName)) ∈ ga_Gl := ga_t 312 (by decide +kernel) rfl
theorem sm_X4_reduceBy : (Cond.static ({ cls := "RecurrenceAnswers$Polynomials", name := "reduceBy", desc := "([I[I)V" } : MethodName)) ∈ ga_Gl := ga_t 313 (by decide +kernel) rfl
theorem cw_X4_reduceBy : (Cond.code ({ cls := "RecurrenceAnswers$Polynomials", name := "reduceBy", desc := "([I[I)V" } : MethodName) prog_6_method_6_code (7 : Nat) (Option.none : Option FieldType)) ∈ ga_Gl := ga_t 314 (by decide +kernel) rfl
theorem ml_X4_21 : (Cond.methodLink "RecurrenceAnswers$Polynomials" (21 : Nat) ({ cls := "RecurrenceAnswers$Numbers", name := "less", desc := "(III)I" } : MethodName)) ∈ ga_Gl := ga_t 315 (by decide +kernel) rfl
theorem ml_X5_72 : (Cond.methodLink "RecurrenceAnswers$Roots" (72 : Nat) ({ cls := "java/lang/System", name := "arraycopy", desc := "(Ljava/lang/Object;ILjava/lang/Object;II)V" } : MethodName)) ∈ ga_Gl := ga_t 316 (by decide +kernel) rfl
theorem sm_java_lang_System_arraycopy : (Cond.static ({ cls := "java/lang/System", name := "arraycopy", desc := "(Ljava/lang/Object;ILjava/lang/Object;II)V" } : MethodName)) ∈ ga_Gl := ga_t 317 (by decide +kernel) rfl
theorem nm_java_lang_System_arraycopy : (Cond.native ({ cls := "java/lang/System", name := "arraycopy", desc := "(Ljava/lang/Object;ILjava/lang/Object;II)V" } : MethodName)) ∈ ga_Gl := ga_t 318 (by decide +kernel) rfl
theorem ml_X5_85 : (Cond.methodLink "RecurrenceAnswers$Roots" (85 : Nat) ({ cls := "RecurrenceAnswers$Polynomials", name := "multiplyByLinear", desc := "([II)V" } : MethodName)) ∈ ga_Gl := ga_t 319 (by decide +kernel) rfl
theorem ml_X5_62 : (Cond.methodLink "RecurrenceAnswers$Roots" (62 : Nat) ({ cls := "RecurrenceAnswers$Numbers", name := "less", desc := "(III)I" } : MethodName)) ∈ ga_Gl := ga_t 320 (by decide +kernel) rfl
theorem ml_X5_68 : (Cond.methodLink "RecurrenceAnswers$Roots" (68 : Nat) ({ cls := "RecurrenceAnswers$Roots", name := "keepCommonDivisor", desc := "([I[I)V" } : MethodName)) ∈ ga_Gl := ga_t 321 (by decide +kernel) rfl
theorem sm_X5_keepCommonDivisor : (Cond.static ({ cls := "RecurrenceAnswers$Roots", name := "keepCommonDivisor", desc := "([I[I)V" } : MethodName)) ∈ ga_Gl := ga_t 322 (by decide +kernel) rfl
theorem cw_X5_keepCommonDivisor : (Cond.code ({ cls := "RecurrenceAnswers$Roots", name := "keepCommonDivisor", desc := "([I[I)V" } : MethodName) prog_7_method_8_code (6 : Nat) (Option.none : Option FieldType)) ∈ ga_Gl := ga_t 323 (by decide +kernel) rfl
theorem ml_X5_47 : (Cond.methodLink "RecurrenceAnswers$Roots" (47 : Nat) ({ cls := "RecurrenceAnswers$Roots", name := "splitOffRoot", desc := "()I" } : MethodName)) ∈ ga_Gl := ga_t 324 (by decide +kernel) rfl
theorem im_X5_splitOffRoot : (Cond.instanceMethod ({ cls := "RecurrenceAnswers$Roots", name := "splitOffRoot", desc := "()I" } : MethodName)) ∈ ga_Gl := ga_t 326 (by decide +kernel) rfl
theorem cw_X5_splitOffRoot : (Cond.code ({ cls := "RecurrenceAnswers$Roots", name := "splitOffRoot", desc := "()I" } : MethodName) prog_7_method_5_code (3 : Nat) (Option.some FieldType.int)) ∈ ga_Gl := ga_t 327 (by decide +kernel) rfl
theorem ml_X5_78 : (Cond.methodLink "RecurrenceAnswers$Roots" (78 : Nat) ({ cls := "RecurrenceAnswers$Numbers", name := "negative", desc := "(I)I" } : MethodName)) ∈ ga_Gl := ga_t 328 (by decide +kernel) rfl
theorem ml_X5_51 : (Cond.methodLink "RecurrenceAnswers$Roots" (51 : Nat) ({ cls := "RecurrenceAnswers$Roots", name := "insert", desc := "(I)V" } : MethodName)) ∈ ga_Gl := ga_t 329 (by decide +kernel) rfl
theorem im_X5_insert : (Cond.instanceMethod ({ cls := "RecurrenceAnswers$Roots", name := "insert", desc := "(I)V" } : MethodName)) ∈ ga_Gl := ga_t 331 (by decide +kernel) rfl
theorem cw_X5_insert : (Cond.code ({ cls := "RecurrenceAnswers$Roots", name := "insert", desc := "(I)V" } : MethodName) prog_7_method_9_code (3 : Nat) (Option.none : Option FieldType)) ∈ ga_Gl := ga_t 332 (by decide +kernel) rfl
theorem ml_X5_55 : (Cond.methodLink "RecurrenceAnswers$Roots" (55 : Nat) ({ cls := "RecurrenceAnswers$Roots", name := "divideOut", desc := "(I)V" } : MethodName)) ∈ ga_Gl := ga_t 333 (by decide +kernel) rfl
theorem im_X5_divideOut : (Cond.instanceMethod ({ cls := "RecurrenceAnswers$Roots", name := "divideOut", desc := "(I)V" } : MethodName)) ∈ ga_Gl := ga_t 335 (by decide +kernel) rfl
theorem cw_X5_divideOut : (Cond.code ({ cls := "RecurrenceAnswers$Roots", name := "divideOut", desc := "(I)V" } : MethodName) prog_7_method_10_code (5 : Nat) (Option.none : Option FieldType)) ∈ ga_Gl := ga_t 336 (by decide +kernel) rfl
theorem ml_X0_85 : (Cond.methodLink "RecurrenceAnswers$Answers" (85 : Nat) ({ cls := "RecurrenceAnswers$Roots", name := "at", desc := "(I)I" } : MethodName)) ∈ ga_Gl := ga_t 337 (by decide +kernel) rfl
theorem im_X5_at : (Cond.instanceMethod ({ cls := "RecurrenceAnswers$Roots", name := "at", desc := "(I)I" } : MethodName)) ∈ ga_Gl := ga_t 338 (by decide +kernel) rfl
theorem sl_X5_at : (Cond.selects "RecurrenceAnswers$Roots" ({ cls := "RecurrenceAnswers$Roots", name := "at", desc := "(I)I" } : MethodName) ({ cls := "RecurrenceAnswers$Roots", name := "at", desc := "(I)I" } : MethodName)) ∈ ga_Gl := ga_t 339 (by decide +kernel) rfl
theorem cw_X5_at : (Cond.code ({ cls := "RecurrenceAnswers$Roots", name := "at", desc := "(I)I" } : MethodName) prog_7_method_2_code (2 : Nat) (Option.some FieldType.int)) ∈ ga_Gl := ga_t 340 (by decide +kernel) rfl
theorem ml_L_118 : (Cond.methodLink "RecurrenceAnswersLaw" (118 : Nat) ({ cls := "RecurrenceAnswers", name := "start", desc := "(J)Z" } : MethodName)) ∈ ga_Gl := ga_t 341 (by decide +kernel) rfl
theorem im_X8_start : (Cond.instanceMethod ({ cls := "RecurrenceAnswers", name := "start", desc := "(J)Z" } : MethodName)) ∈ ga_Gl := ga_t 342 (by decide +kernel) rfl
theorem sl_X8_start : (Cond.selects "RecurrenceAnswers" ({ cls := "RecurrenceAnswers", name := "start", desc := "(J)Z" } : MethodName) ({ cls := "RecurrenceAnswers", name := "start", desc := "(J)Z" } : MethodName)) ∈ ga_Gl := ga_t 343 (by decide +kernel) rfl
theorem cw_X8_start : (Cond.code ({ cls := "RecurrenceAnswers", name := "start", desc := "(J)Z" } : MethodName) prog_1_method_12_code (3 : Nat) (Option.some FieldType.boolean)) ∈ ga_Gl := ga_t 344 (by decide +kernel) rfl
theorem ml_X8_77 : (Cond.methodLink "RecurrenceAnswers" (77 : Nat) ({ cls := "RecurrenceAnswers$Numbers", name := "of", desc := "(J)I" } : MethodName)) ∈ ga_Gl := ga_t 345 (by decide +kernel) rfl
theorem sm_X3_of : (Cond.static ({ cls := "RecurrenceAnswers$Numbers", name := "of", desc := "(J)I" } : MethodName)) ∈ ga_Gl := ga_t 346 (by decide +kernel) rfl
theorem cw_X3_of : (Cond.code ({ cls := "RecurrenceAnswers$Numbers", name := "of", desc := "(J)I" } : MethodName) prog_5_method_2_code (2 : Nat) (Option.some FieldType.int)) ∈ ga_Gl := ga_t 347 (by decide +kernel) rfl
theorem kl_X3_9 : (Cond.constantLong "RecurrenceAnswers$Numbers" (9 : Nat) (32003 : Int64)) ∈ ga_Gl := ga_t 348 (by decide +kernel) rfl
theorem ml_X3_11 : (Cond.methodLink "RecurrenceAnswers$Numbers" (11 : Nat) ({ cls := "java/lang/Math", name := "floorMod", desc := "(JJ)J" } : MethodName)) ∈ ga_Gl := ga_t 349 (by decide +kernel) rfl
theorem sm_J9_floorMod_f86c9 : (Cond.static ({ cls := "java/lang/Math", name := "floorMod", desc := "(JJ)J" } : MethodName)) ∈ ga_Gl := ga_t 350 (by decide +kernel) rfl
theorem cw_J9_floorMod_f86c9 : (Cond.code ({ cls := "java/lang/Math", name := "floorMod", desc := "(JJ)J" } : MethodName) prog_18_method_52_code (6 : Nat) (Option.some FieldType.long)) ∈ ga_Gl := ga_t 351 (by decide +kernel) rfl
theorem ml_X8_157 : (Cond.methodLink "RecurrenceAnswers" (157 : Nat) ({ cls := "RecurrenceAnswers$Values", name := "addStart", desc := "(I)Z" } : MethodName)) ∈ ga_Gl := ga_t 352 (by decide +kernel) rfl
theorem im_X7_addStart : (Cond.instanceMethod ({ cls := "RecurrenceAnswers$Values", name := "addStart", desc := "(I)Z" } : MethodName)) ∈ ga_Gl := ga_t 353 (by decide +kernel) rfl
theorem sl_X7_addStart : (Cond.selects "RecurrenceAnswers$Values" ({ cls := "RecurrenceAnswers$Values", name := "addStart", desc := "(I)Z" } : MethodName) ({ cls := "RecurrenceAnswers$Values", name := "addStart", desc := "(I)Z" } : MethodName)) ∈ ga_Gl := ga_t 354 (by decide +kernel) rfl
theorem cw_X7_addStart : (Cond.code ({ cls := "RecurrenceAnswers$Values", name := "addStart", desc := "(I)Z" } : MethodName) prog_9_method_2_code (2 : Nat) (Option.some FieldType.boolean)) ∈ ga_Gl := ga_t 355 (by decide +kernel) rfl
theorem ml_L_126 : (Cond.methodLink "RecurrenceAnswersLaw" (126 : Nat) ({ cls := "RecurrenceAnswers", name := "singular", desc := "(I)I" } : MethodName)) ∈ ga_Gl := ga_t 356 (by decide +kernel) rfl
theorem im_X8_singular : (Cond.instanceMethod ({ cls := "RecurrenceAnswers", name := "singular", desc := "(I)I" } : MethodName)) ∈ ga_Gl := ga_t 357 (by decide +kernel) rfl
theorem sl_X8_singular : (Cond.selects "RecurrenceAnswers" ({ cls := "RecurrenceAnswers", name := "singular", desc := "(I)I" } : MethodName) ({ cls := "RecurrenceAnswers", name := "singular", desc := "(I)I" } : MethodName)) ∈ ga_Gl := ga_t 358 (by decide +kernel) rfl
theorem cw_X8_singular : (Cond.code ({ cls := "RecurrenceAnswers", name := "singular", desc := "(I)I" } : MethodName) prog_1_method_14_code (3 : Nat) (Option.some FieldType.int)) ∈ ga_Gl := ga_t 359 (by decide +kernel) rfl
theorem ml_X8_169 : (Cond.methodLink "RecurrenceAnswers" (169 : Nat) ({ cls := "RecurrenceAnswers$Roots", name := "find", desc := "([I)V" } : MethodName)) ∈ ga_Gl := ga_t 360 (by decide +kernel) rfl
theorem ml_X8_172 : (Cond.methodLink "RecurrenceAnswers" (172 : Nat) ({ cls := "RecurrenceAnswers$Roots", name := "at", desc := "(I)I" } : MethodName)) ∈ ga_Gl := ga_t 361 (by decide +kernel) rfl
theorem ml_L_139 : (Cond.methodLink "RecurrenceAnswersLaw" (139 : Nat) ({ cls := "RecurrenceAnswers", name := "clear", desc := "()V" } : MethodName)) ∈ ga_Gl := ga_t 362 (by decide +kernel) rfl
theorem im_X8_clear : (Cond.instanceMethod ({ cls := "RecurrenceAnswers", name := "clear", desc := "()V" } : MethodName)) ∈ ga_Gl := ga_t 363 (by decide +kernel) rfl
theorem sl_X8_clear : (Cond.selects "RecurrenceAnswers" ({ cls := "RecurrenceAnswers", name := "clear", desc := "()V" } : MethodName) ({ cls := "RecurrenceAnswers", name := "clear", desc := "()V" } : MethodName)) ∈ ga_Gl := ga_t 364 (by decide +kernel) rfl
theorem cw_X8_clear : (Cond.code ({ cls := "RecurrenceAnswers", name := "clear", desc := "()V" } : MethodName) prog_1_method_18_code (2 : Nat) (Option.none : Option FieldType)) ∈ ga_Gl := ga_t 365 (by decide +kernel) rfl
theorem ml_X8_190 : (Cond.methodLink "RecurrenceAnswers" (190 : Nat) ({ cls := "RecurrenceAnswers$Equation", name := "empty", desc := "()V" } : MethodName)) ∈ ga_Gl := ga_t 366 (by decide +kernel) rfl
theorem im_X1_empty : (Cond.instanceMethod ({ cls := "RecurrenceAnswers$Equation", name := "empty", desc := "()V" } : MethodName)) ∈ ga_Gl := ga_t 367 (by decide +kernel) rfl
theorem sl_X1_empty : (Cond.selects "RecurrenceAnswers$Equation" ({ cls := "RecurrenceAnswers$Equation", name := "empty", desc := "()V" } : MethodName) ({ cls := "RecurrenceAnswers$Equation", name := "empty", desc := "()V" } : MethodName)) ∈ ga_Gl := ga_t 368 (by decide +kernel) rfl
theorem cw_X1_empty : (Cond.code ({ cls := "RecurrenceAnswers$Equation", name := "empty", desc := "()V" } : MethodName) prog_3_method_5_code (3 : Nat) (Option.none : Option FieldType)) ∈ ga_Gl := ga_t 369 (by decide +kernel) rfl
theorem ml_X8_193 : (Cond.methodLink "RecurrenceAnswers" (193 : Nat) ({ cls := "RecurrenceAnswers$Values", name := "empty", desc := "()V" } : MethodName)) ∈ ga_Gl := ga_t 370 (by decide +kernel) rfl
theorem im_X7_empty : (Cond.instanceMethod ({ cls := "RecurrenceAnswers$Values", name := "empty", desc := "()V" } : MethodName)) ∈ ga_Gl := ga_t 371 (by decide +kernel) rfl
theorem sl_X7_empty : (Cond.selects "RecurrenceAnswers$Values" ({ cls := "RecurrenceAnswers$Values", name := "empty", desc := "()V" } : MethodName) ({ cls := "RecurrenceAnswers$Values", name := "empty", desc := "()V" } : MethodName)) ∈ ga_Gl := ga_t 372 (by decide +kernel) rfl
theorem cw_X7_empty : (Cond.code ({ cls := "RecurrenceAnswers$Values", name := "empty", desc := "()V" } : MethodName) prog_9_method_4_code (1 : Nat) (Option.none : Option FieldType)) ∈ ga_Gl := ga_t 373 (by decide +kernel) rfl
theorem ml_X8_194 : (Cond.methodLink "RecurrenceAnswers" (194 : Nat) ({ cls := "RecurrenceAnswers", name := "forgetConclusions", desc := "()V" } : MethodName)) ∈ ga_Gl := ga_t 374 (by decide +kernel) rfl
theorem im_X8_forgetConclusions : (Cond.instanceMethod ({ cls := "RecurrenceAnswers", name := "forgetConclusions", desc := "()V" } : MethodName)) ∈ ga_Gl := ga_t 376 (by decide +kernel) rfl
theorem cw_X8_forgetConclusions : (Cond.code ({ cls := "RecurrenceAnswers", name := "forgetConclusions", desc := "()V" } : MethodName) prog_1_method_20_code (1 : Nat) (Option.none : Option FieldType)) ∈ ga_Gl := ga_t 377 (by decide +kernel) rfl
theorem ml_X8_197 : (Cond.methodLink "RecurrenceAnswers" (197 : Nat) ({ cls := "RecurrenceAnswers$Values", name := "forgetConclusions", desc := "()V" } : MethodName)) ∈ ga_Gl := ga_t 378 (by decide +kernel) rfl
theorem im_X7_forgetConclusions : (Cond.instanceMethod ({ cls := "RecurrenceAnswers$Values", name := "forgetConclusions", desc := "()V" } : MethodName)) ∈ ga_Gl := ga_t 379 (by decide +kernel) rfl
theorem sl_X7_forgetConclusions : (Cond.selects "RecurrenceAnswers$Values" ({ cls := "RecurrenceAnswers$Values", name := "forgetConclusions", desc := "()V" } : MethodName) ({ cls := "RecurrenceAnswers$Values", name := "forgetConclusions", desc := "()V" } : MethodName)) ∈ ga_Gl := ga_t 380 (by decide +kernel) rfl
theorem cw_X7_forgetConclusions : (Cond.code ({ cls := "RecurrenceAnswers$Values", name := "forgetConclusions", desc := "()V" } : MethodName) prog_9_method_3_code (1 : Nat) (Option.none : Option FieldType)) ∈ ga_Gl := ga_t 381 (by decide +kernel) rfl
theorem ml_L_64 : (Cond.methodLink "RecurrenceAnswersLaw" (64 : Nat) ({ cls := "RecurrenceAnswersLaw", name := "cell", desc := "([II)I" } : MethodName)) ∈ ga_Gl := ga_t 382 (by decide +kernel) rfl
theorem sm_L_cell : (Cond.static ({ cls := "RecurrenceAnswersLaw", name := "cell", desc := "([II)I" } : MethodName)) ∈ ga_Gl := ga_t 383 (by decide +kernel) rfl
theorem cw_L_cell : (Cond.code ({ cls := "RecurrenceAnswersLaw", name := "cell", desc := "([II)I" } : MethodName) method_2_code (2 : Nat) (Option.some FieldType.int)) ∈ ga_Gl := ga_t 384 (by decide +kernel) rfl
theorem ml_L_78 : (Cond.methodLink "RecurrenceAnswersLaw" (78 : Nat) ({ cls := "RecurrenceAnswersLaw", name := "factor", desc := "(LRecurrenceAnswers;IIJJ[J)I" } : MethodName)) ∈ ga_Gl := ga_t 385 (by decide +kernel) rfl
theorem sm_L_factor : (Cond.static ({ cls := "RecurrenceAnswersLaw", name := "factor", desc := "(LRecurrenceAnswers;IIJJ[J)I" } : MethodName)) ∈ ga_Gl := ga_t 386 (by decide +kernel) rfl
theorem cx_L_factor : (Cond.codeWith ({ cls := "RecurrenceAnswersLaw", name := "factor", desc := "(LRecurrenceAnswers;IIJJ[J)I" } : MethodName) method_3_code (9 : Nat) (Option.some FieldType.int) [((0 : Nat), (21 : Nat), (24 : Nat), (13 : Nat)), ((0 : Nat), (21 : Nat), (28 : Nat), (15 : Nat)), ((0 : Nat), (21 : Nat), (32 : Nat), (17 : Nat))]) ∈ ga_Gl := ga_t 387 (by decide +kernel) rfl
theorem cl_L_13 : (Cond.classLink "RecurrenceAnswersLaw" (13 : Nat) "java/lang/ArrayIndexOutOfBoundsException") ∈ ga_Gl := ga_t 388 (by decide +kernel) rfl
theorem wn_Jx00060 : (Cond.instantiable "java/lang/ArrayIndexOutOfBoundsException" (6 : Nat)) ∈ ga_Gl := ga_t 389 (by decide +kernel) rfl
theorem im_Jx00060_init_a7421 : (Cond.instanceMethod ({ cls := "java/lang/ArrayIndexOutOfBoundsException", name := "<init>", desc := "(Ljava/lang/String;)V" } : MethodName)) ∈ ga_Gl := ga_t 390 (by decide +kernel) rfl
theorem cw_Jx00060_init_a7421 : (Cond.code ({ cls := "java/lang/ArrayIndexOutOfBoundsException", name := "<init>", desc := "(Ljava/lang/String;)V" } : MethodName) prog_13_method_2_code (2 : Nat) (Option.none : Option FieldType)) ∈ ga_Gl := ga_t 391 (by decide +kernel) rfl
theorem ml_Jx00060_7 : (Cond.methodLink "java/lang/ArrayIndexOutOfBoundsException" (7 : Nat) ({ cls := "java/lang/IndexOutOfBoundsException", name := "<init>", desc := "(Ljava/lang/String;)V" } : MethodName)) ∈ ga_Gl := ga_t 392 (by decide +kernel) rfl
theorem im_java_lang_IndexOutOfBoundsException__init_ : (Cond.instanceMethod ({ cls := "java/lang/IndexOutOfBoundsException", name := "<init>", desc := "(Ljava/lang/String;)V" } : MethodName)) ∈ ga_Gl := ga_t 393 (by decide +kernel) rfl
theorem cw_java_lang_IndexOutOfBoundsException__init_ : (Cond.code ({ cls := "java/lang/IndexOutOfBoundsException", name := "<init>", desc := "(Ljava/lang/String;)V" } : MethodName) prog_17_method_2_code (2 : Nat) (Option.none : Option FieldType)) ∈ ga_Gl := ga_t 394 (by decide +kernel) rfl
theorem ml_java_lang_IndexOutOfBoundsException_7 : (Cond.methodLink "java/lang/IndexOutOfBoundsException" (7 : Nat) ({ cls := "java/lang/RuntimeException", name := "<init>", desc := "(Ljava/lang/String;)V" } : MethodName)) ∈ ga_Gl := ga_t 395 (by decide +kernel) rfl
theorem im_java_lang_RuntimeException__init_ : (Cond.instanceMethod ({ cls := "java/lang/RuntimeException", name := "<init>", desc := "(Ljava/lang/String;)V" } : MethodName)) ∈ ga_Gl := ga_t 396 (by decide +kernel) rfl
theorem cw_java_lang_RuntimeException__init_ : (Cond.code ({ cls := "java/lang/RuntimeException", name := "<init>", desc := "(Ljava/lang/String;)V" } : MethodName) prog_19_method_2_code (2 : Nat) (Option.none : Option FieldType)) ∈ ga_Gl := ga_t 397 (by decide +kernel) rfl
theorem ml_java_lang_RuntimeException_7 : (Cond.methodLink "java/lang/RuntimeException" (7 : Nat) ({ cls := "java/lang/Exception", name := "<init>", desc := "(Ljava/lang/String;)V" } : MethodName)) ∈ ga_Gl := ga_t 398 (by decide +kernel) rfl
theorem im_java_lang_Exception__init_ : (Cond.instanceMethod ({ cls := "java/lang/Exception", name := "<init>", desc := "(Ljava/lang/String;)V" } : MethodName)) ∈ ga_Gl := ga_t 399 (by decide +kernel) rfl
theorem cw_java_lang_Exception__init_ : (Cond.code ({ cls := "java/lang/Exception", name := "<init>", desc := "(Ljava/lang/String;)V" } : MethodName) prog_14_method_2_code (2 : Nat) (Option.none : Option FieldType)) ∈ ga_Gl := ga_t 400 (by decide +kernel) rfl
theorem ml_java_lang_Exception_7 : (Cond.methodLink "java/lang/Exception" (7 : Nat) ({ cls := "java/lang/Throwable", name := "<init>", desc := "(Ljava/lang/String;)V" } : MethodName)) ∈ ga_Gl := ga_t 401 (by decide +kernel) rfl
theorem im_java_lang_Throwable__init_ : (Cond.instanceMethod ({ cls := "java/lang/Throwable", name := "<init>", desc := "(Ljava/lang/String;)V" } : MethodName)) ∈ ga_Gl := ga_t 402 (by decide +kernel) rfl
theorem cw_java_lang_Throwable__init_ : (Cond.code ({ cls := "java/lang/Throwable", name := "<init>", desc := "(Ljava/lang/String;)V" } : MethodName) prog_22_method_2_code (2 : Nat) (Option.none : Option FieldType)) ∈ ga_Gl := ga_t 403 (by decide +kernel) rfl
theorem ml_java_lang_Throwable_1 : (Cond.methodLink "java/lang/Throwable" (1 : Nat) ({ cls := "java/lang/Object", name := "<init>", desc := "()V" } : MethodName)) ∈ ga_Gl := ga_t 404 (by decide +kernel) rfl
theorem fl_java_lang_Throwable_13 : (Cond.fieldLink "java/lang/Throwable" (13 : Nat) "java/lang/Throwable" "UNASSIGNED_STACK" "[Ljava/lang/StackTraceElement;") ∈ ga_Gl := ga_t 405 (by decide +kernel) rfl
theorem fl_java_lang_Throwable_20 : (Cond.fieldLink "java/lang/Throwable" (20 : Nat) "java/lang/Throwable" "SUPPRESSED_SENTINEL" "Ljava/util/List;") ∈ ga_Gl := ga_t 407 (by decide +kernel) rfl
theorem ml_java_lang_Throwable_27 : (Cond.methodLink "java/lang/Throwable" (27 : Nat) ({ cls := "java/lang/Throwable", name := "fillInStackTrace", desc := "()Ljava/lang/Throwable;" } : MethodName)) ∈ ga_Gl := ga_t 409 (by decide +kernel) rfl
theorem im_java_lang_Throwable_fillInStackTrace : (Cond.instanceMethod ({ cls := "java/lang/Throwable", name := "fillInStackTrace", desc := "()Ljava/lang/Throwable;" } : MethodName)) ∈ ga_Gl := ga_t 410 (by decide +kernel) rfl
theorem sl_java_lang_Throwable_fillInStackTrace_java_lang_ArithmeticException_java_lang_ArithmeticException : (Cond.selects "java/lang/ArithmeticException" ({ cls := "java/lang/Throwable", name := "fillInStackTrace", desc := "()Ljava/lang/Throwable;" } : MethodName) ({ cls := "java/lang/Throwable", name := "fillInStackTrace", desc := "()Ljava/lang/Throwable;" } : MethodName)) ∈ ga_Gl := ga_t 412 (by decide +kernel) rfl
theorem sl_java_lang_Throwable_fillInStackTrace_java_lang_ArrayIndexOutOfBoundsException_java_lang_ArrayIndexOutOfBoundsException : (Cond.selects "java/lang/ArrayIndexOutOfBoundsException" ({ cls := "java/lang/Throwable", name := "fillInStackTrace", desc := "()Ljava/lang/Throwable;" } : MethodName) ({ cls := "java/lang/Throwable", name := "fillInStackTrace", desc := "()Ljava/lang/Throwable;" } : MethodName)) ∈ ga_Gl := ga_t 413 (by decide +kernel) rfl
theorem sl_java_lang_Throwable_fillInStackTrace_java_lang_IllegalArgumentException_java_lang_IllegalArgumentException : (Cond.selects "java/lang/IllegalArgumentException" ({ cls := "java/lang/Throwable", name := "fillInStackTrace", desc := "()Ljava/lang/Throwable;" } : MethodName) ({ cls := "java/lang/Throwable", name := "fillInStackTrace", desc := "()Ljava/lang/Throwable;" } : MethodName)) ∈ ga_Gl := ga_t 414 (by decide +kernel) rfl
theorem sl_java_lang_Throwable_fillInStackTrace_java_lang_IllegalStateException_java_lang_IllegalStateException : (Cond.selects "java/lang/IllegalStateException" ({ cls := "java/lang/Throwable", name := "fillInStackTrace", desc := "()Ljava/lang/Throwable;" } : MethodName) ({ cls := "java/lang/Throwable", name := "fillInStackTrace", desc := "()Ljava/lang/Throwable;" } : MethodName)) ∈ ga_Gl := ga_t 415 (by decide +kernel) rfl
theorem ml_java_lang_Throwable_202 : (Cond.methodLink "java/lang/Throwable" (202 : Nat) ({ cls := "java/lang/Throwable", name := "fillInStackTrace", desc := "(I)Ljava/lang/Throwable;" } : MethodName)) ∈ ga_Gl := ga_t 417 (by decide +kernel) rfl
theorem im_java_lang_Throwable_fillInStackTrace_2 : (Cond.instanceMethod ({ cls := "java/lang/Throwable", name := "fillInStackTrace", desc := "(I)Ljava/lang/Throwable;" } : MethodName)) ∈ ga_Gl := ga_t 419 (by decide +kernel) rfl
theorem wn_java_lang_Throwable : (Cond.instantiable "java/lang/Throwable" (6 : Nat)) ∈ ga_Gl := ga_t 420 (by decide +kernel) rfl
theorem nm_java_lang_Throwable_fillInStackTrace : (Cond.native ({ cls := "java/lang/Throwable", name := "fillInStackTrace", desc := "(I)Ljava/lang/Throwable;" } : MethodName)) ∈ ga_Gl := ga_t 421 (by decide +kernel) rfl
theorem fl_java_lang_Throwable_198 : (Cond.fieldLink "java/lang/Throwable" (198 : Nat) "java/lang/Throwable" "backtrace" "Ljava/lang/Object;") ∈ ga_Gl := ga_t 422 (by decide +kernel) rfl
theorem fl_java_lang_Throwable_31 : (Cond.fieldLink "java/lang/Throwable" (31 : Nat) "java/lang/Throwable" "detailMessage" "Ljava/lang/String;") ∈ ga_Gl := ga_t 423 (by decide +kernel) rfl
theorem fl_java_lang_Throwable_7 : (Cond.fieldLink "java/lang/Throwable" (7 : Nat) "java/lang/Throwable" "cause" "Ljava/lang/Throwable;") ∈ ga_Gl := ga_t 424 (by decide +kernel) rfl
theorem fl_java_lang_Throwable_17 : (Cond.fieldLink "java/lang/Throwable" (17 : Nat) "java/lang/Throwable" "stackTrace" "[Ljava/lang/StackTraceElement;") ∈ ga_Gl := ga_t 425 (by decide +kernel) rfl
theorem fl_java_lang_Throwable_24 : (Cond.fieldLink "java/lang/Throwable" (24 : Nat) "java/lang/Throwable" "suppressedExceptions" "Ljava/util/List;") ∈ ga_Gl := ga_t 426 (by decide +kernel) rfl
theorem sl_java_lang_Throwable_fillInStackTrace_java_lang_ArrayIndexOutOfBoundsException_java_lang_ArrayIndexOutOfBoundsException_2 : (Cond.selects "java/lang/ArrayIndexOutOfBoundsException" ({ cls := "java/lang/Throwable", name := "fillInStackTrace", desc := "(I)Ljava/lang/Throwable;" } : MethodName) ({ cls := "java/lang/Throwable", name := "fillInStackTrace", desc := "(I)Ljava/lang/Throwable;" } : MethodName)) ∈ ga_Gl := ga_t 449 (by decide +kernel) rfl
theorem im_java_lang_Throwable__init__2 : (Cond.instanceMethod ({ cls := "java/lang/Throwable", name := "<init>", desc := "()V" } : MethodName)) ∈ ga_Gl := ga_t 457 (by decide +kernel) rfl
theorem cw_java_lang_Throwable__init__2 : (Cond.code ({ cls := "java/lang/Throwable", name := "<init>", desc := "()V" } : MethodName) prog_22_method_1_code (1 : Nat) (Option.none : Option FieldType)) ∈ ga_Gl := ga_t 458 (by decide +kernel) rfl
theorem wn_J0 : (Cond.instantiable "java/lang/String" (4 : Nat)) ∈ ga_Gl := ga_t 459 (by decide +kernel) rfl
theorem ac_byte : (Cond.arrayClass FieldType.byte) ∈ ga_Gl := ga_t 460 (by decide +kernel) rfl
theorem cl_L_15 : (Cond.classLink "RecurrenceAnswersLaw" (15 : Nat) "java/lang/IllegalArgumentException") ∈ ga_Gl := ga_t 465 (by decide +kernel) rfl
theorem cl_L_17 : (Cond.classLink "RecurrenceAnswersLaw" (17 : Nat) "java/lang/ArithmeticException") ∈ ga_Gl := ga_t 466 (by decide +kernel) rfl
theorem wn_java_lang_ArithmeticException : (Cond.instantiable "java/lang/ArithmeticException" (6 : Nat)) ∈ ga_Gl := ga_t 467 (by decide +kernel) rfl
theorem im_java_lang_ArithmeticException__init_ : (Cond.instanceMethod ({ cls := "java/lang/ArithmeticException", name := "<init>", desc := "(Ljava/lang/String;)V" } : MethodName)) ∈ ga_Gl := ga_t 468 (by decide +kernel) rfl
theorem cw_java_lang_ArithmeticException__init_ : (Cond.code ({ cls := "java/lang/ArithmeticException", name := "<init>", desc := "(Ljava/lang/String;)V" } : MethodName) prog_12_method_2_code (2 : Nat) (Option.none : Option FieldType)) ∈ ga_Gl := ga_t 469 (by decide +kernel) rfl
theorem ml_java_lang_ArithmeticException_7 : (Cond.methodLink "java/lang/ArithmeticException" (7 : Nat) ({ cls := "java/lang/RuntimeException", name := "<init>", desc := "(Ljava/lang/String;)V" } : MethodName)) ∈ ga_Gl := ga_t 470 (by decide +kernel) rfl
theorem sl_java_lang_Throwable_fillInStackTrace_java_lang_ArithmeticException_java_lang_ArithmeticException_2 : (Cond.selects "java/lang/ArithmeticException" ({ cls := "java/lang/Throwable", name := "fillInStackTrace", desc := "(I)Ljava/lang/Throwable;" } : MethodName) ({ cls := "java/lang/Throwable", name := "fillInStackTrace", desc := "(I)Ljava/lang/Throwable;" } : MethodName)) ∈ ga_Gl := ga_t 479 (by decide +kernel) rfl
theorem ml_L_7 : (Cond.methodLink "RecurrenceAnswersLaw" (7 : Nat) ({ cls := "RecurrenceAnswers", name := "factor", desc := "(IIJJ)Z" } : MethodName)) ∈ ga_Gl := ga_t 480 (by decide +kernel) rfl
theorem im_X8_factor : (Cond.instanceMethod ({ cls := "RecurrenceAnswers", name := "factor", desc := "(IIJJ)Z" } : MethodName)) ∈ ga_Gl := ga_t 481 (by decide +kernel) rfl
theorem sl_X8_factor : (Cond.selects "RecurrenceAnswers" ({ cls := "RecurrenceAnswers", name := "factor", desc := "(IIJJ)Z" } : MethodName) ({ cls := "RecurrenceAnswers", name := "factor", desc := "(IIJJ)Z" } : MethodName)) ∈ ga_Gl := ga_t 482 (by decide +kernel) rfl
theorem cw_X8_factor : (Cond.code ({ cls := "RecurrenceAnswers", name := "factor", desc := "(IIJJ)Z" } : MethodName) prog_1_method_2_code (7 : Nat) (Option.some FieldType.boolean)) ∈ ga_Gl := ga_t 483 (by decide +kernel) rfl
theorem cl_X8_65 : (Cond.classLink "RecurrenceAnswers" (65 : Nat) "java/lang/ArrayIndexOutOfBoundsException") ∈ ga_Gl := ga_t 484 (by decide +kernel) rfl
theorem ml_X8_69 : (Cond.methodLink "RecurrenceAnswers" (69 : Nat) ({ cls := "java/lang/ArrayIndexOutOfBoundsException", name := "<init>", desc := "(Ljava/lang/String;)V" } : MethodName)) ∈ ga_Gl := ga_t 486 (by decide +kernel) rfl
theorem cl_X8_72 : (Cond.classLink "RecurrenceAnswers" (72 : Nat) "java/lang/IllegalArgumentException") ∈ ga_Gl := ga_t 487 (by decide +kernel) rfl
theorem wn_java_lang_IllegalArgumentException : (Cond.instantiable "java/lang/IllegalArgumentException" (6 : Nat)) ∈ ga_Gl := ga_t 488 (by decide +kernel) rfl
theorem sl_java_lang_Throwable_fillInStackTrace_java_lang_IllegalArgumentException_java_lang_IllegalArgumentException_2 : (Cond.selects "java/lang/IllegalArgumentException" ({ cls := "java/lang/Throwable", name := "fillInStackTrace", desc := "(I)Ljava/lang/Throwable;" } : MethodName) ({ cls := "java/lang/Throwable", name := "fillInStackTrace", desc := "(I)Ljava/lang/Throwable;" } : MethodName)) ∈ ga_Gl := ga_t 490 (by decide +kernel) rfl
theorem ml_X8_76 : (Cond.methodLink "RecurrenceAnswers" (76 : Nat) ({ cls := "java/lang/IllegalArgumentException", name := "<init>", desc := "(Ljava/lang/String;)V" } : MethodName)) ∈ ga_Gl := ga_t 497 (by decide +kernel) rfl
theorem im_java_lang_IllegalArgumentException__init_ : (Cond.instanceMethod ({ cls := "java/lang/IllegalArgumentException", name := "<init>", desc := "(Ljava/lang/String;)V" } : MethodName)) ∈ ga_Gl := ga_t 498 (by decide +kernel) rfl
theorem cw_java_lang_IllegalArgumentException__init_ : (Cond.code ({ cls := "java/lang/IllegalArgumentException", name := "<init>", desc := "(Ljava/lang/String;)V" } : MethodName) prog_15_method_2_code (2 : Nat) (Option.none : Option FieldType)) ∈ ga_Gl := ga_t 499 (by decide +kernel) rfl
theorem ml_java_lang_IllegalArgumentException_7 : (Cond.methodLink "java/lang/IllegalArgumentException" (7 : Nat) ({ cls := "java/lang/RuntimeException", name := "<init>", desc := "(Ljava/lang/String;)V" } : MethodName)) ∈ ga_Gl := ga_t 500 (by decide +kernel) rfl
theorem cl_X8_83 : (Cond.classLink "RecurrenceAnswers" (83 : Nat) "java/lang/ArithmeticException") ∈ ga_Gl := ga_t 503 (by decide +kernel) rfl
theorem ml_X8_87 : (Cond.methodLink "RecurrenceAnswers" (87 : Nat) ({ cls := "java/lang/ArithmeticException", name := "<init>", desc := "(Ljava/lang/String;)V" } : MethodName)) ∈ ga_Gl := ga_t 505 (by decide +kernel) rfl
theorem ml_X8_92 : (Cond.methodLink "RecurrenceAnswers" (92 : Nat) ({ cls := "RecurrenceAnswers$Numbers", name := "quotient", desc := "(JJ)I" } : MethodName)) ∈ ga_Gl := ga_t 506 (by decide +kernel) rfl
theorem sm_X3_quotient : (Cond.static ({ cls := "RecurrenceAnswers$Numbers", name := "quotient", desc := "(JJ)I" } : MethodName)) ∈ ga_Gl := ga_t 507 (by decide +kernel) rfl
theorem cw_X3_quotient : (Cond.code ({ cls := "RecurrenceAnswers$Numbers", name := "quotient", desc := "(JJ)I" } : MethodName) prog_5_method_4_code (4 : Nat) (Option.some FieldType.int)) ∈ ga_Gl := ga_t 508 (by decide +kernel) rfl
theorem ml_X3_17 : (Cond.methodLink "RecurrenceAnswers$Numbers" (17 : Nat) ({ cls := "RecurrenceAnswers$Numbers", name := "of", desc := "(J)I" } : MethodName)) ∈ ga_Gl := ga_t 509 (by decide +kernel) rfl
theorem ml_X3_23 : (Cond.methodLink "RecurrenceAnswers$Numbers" (23 : Nat) ({ cls := "RecurrenceAnswers$Numbers", name := "inverse", desc := "(I)I" } : MethodName)) ∈ ga_Gl := ga_t 510 (by decide +kernel) rfl
theorem ml_X8_96 : (Cond.methodLink "RecurrenceAnswers" (96 : Nat) ({ cls := "RecurrenceAnswers", name := "change", desc := "([III)Z" } : MethodName)) ∈ ga_Gl := ga_t 511 (by decide +kernel) rfl
theorem im_X8_change : (Cond.instanceMethod ({ cls := "RecurrenceAnswers", name := "change", desc := "([III)Z" } : MethodName)) ∈ ga_Gl := ga_t 513 (by decide +kernel) rfl
theorem cw_X8_change : (Cond.code ({ cls := "RecurrenceAnswers", name := "change", desc := "([III)Z" } : MethodName) prog_1_method_19_code (4 : Nat) (Option.some FieldType.boolean)) ∈ ga_Gl := ga_t 514 (by decide +kernel) rfl
theorem ml_L_85 : (Cond.methodLink "RecurrenceAnswersLaw" (85 : Nat) ({ cls := "RecurrenceAnswersLaw", name := "right", desc := "(LRecurrenceAnswers;IJJ[J)I" } : MethodName)) ∈ ga_Gl := ga_t 515 (by decide +kernel) rfl
theorem sm_L_right : (Cond.static ({ cls := "RecurrenceAnswersLaw", name := "right", desc := "(LRecurrenceAnswers;IJJ[J)I" } : MethodName)) ∈ ga_Gl := ga_t 516 (by decide +kernel) rfl
theorem cx_L_right : (Cond.codeWith ({ cls := "RecurrenceAnswersLaw", name := "right", desc := "(LRecurrenceAnswers;IJJ[J)I" } : MethodName) method_4_code (8 : Nat) (Option.some FieldType.int) [((0 : Nat), (20 : Nat), (23 : Nat), (15 : Nat)), ((0 : Nat), (20 : Nat), (27 : Nat), (17 : Nat))]) ∈ ga_Gl := ga_t 517 (by decide +kernel) rfl
theorem ml_L_19 : (Cond.methodLink "RecurrenceAnswersLaw" (19 : Nat) ({ cls := "RecurrenceAnswers", name := "right", desc := "(IJJ)Z" } : MethodName)) ∈ ga_Gl := ga_t 518 (by decide +kernel) rfl
theorem im_X8_right : (Cond.instanceMethod ({ cls := "RecurrenceAnswers", name := "right", desc := "(IJJ)Z" } : MethodName)) ∈ ga_Gl := ga_t 519 (by decide +kernel) rfl
theorem sl_X8_right : (Cond.selects "RecurrenceAnswers" ({ cls := "RecurrenceAnswers", name := "right", desc := "(IJJ)Z" } : MethodName) ({ cls := "RecurrenceAnswers", name := "right", desc := "(IJJ)Z" } : MethodName)) ∈ ga_Gl := ga_t 520 (by decide +kernel) rfl
theorem cw_X8_right : (Cond.code ({ cls := "RecurrenceAnswers", name := "right", desc := "(IJJ)Z" } : MethodName) prog_1_method_3_code (6 : Nat) (Option.some FieldType.boolean)) ∈ ga_Gl := ga_t 521 (by decide +kernel) rfl
theorem ml_L_93 : (Cond.methodLink "RecurrenceAnswersLaw" (93 : Nat) ({ cls := "RecurrenceAnswersLaw", name := "polynomials", desc := "(LRecurrenceAnswers;[J)I" } : MethodName)) ∈ ga_Gl := ga_t 523 (by decide +kernel) rfl
theorem sm_L_polynomials : (Cond.static ({ cls := "RecurrenceAnswersLaw", name := "polynomials", desc := "(LRecurrenceAnswers;[J)I" } : MethodName)) ∈ ga_Gl := ga_t 524 (by decide +kernel) rfl
theorem cx_L_polynomials : (Cond.codeWith ({ cls := "RecurrenceAnswersLaw", name := "polynomials", desc := "(LRecurrenceAnswers;[J)I" } : MethodName) method_5_code (3 : Nat) (Option.some FieldType.int) [((0 : Nat), (8 : Nat), (11 : Nat), (27 : Nat))]) ∈ ga_Gl := ga_t 525 (by decide +kernel) rfl
theorem cl_L_27 : (Cond.classLink "RecurrenceAnswersLaw" (27 : Nat) "java/lang/IllegalStateException") ∈ ga_Gl := ga_t 526 (by decide +kernel) rfl
theorem ml_L_23 : (Cond.methodLink "RecurrenceAnswersLaw" (23 : Nat) ({ cls := "RecurrenceAnswers", name := "polynomials", desc := "()I" } : MethodName)) ∈ ga_Gl := ga_t 527 (by decide +kernel) rfl
theorem im_X8_polynomials : (Cond.instanceMethod ({ cls := "RecurrenceAnswers", name := "polynomials", desc := "()I" } : MethodName)) ∈ ga_Gl := ga_t 528 (by decide +kernel) rfl
theorem sl_X8_polynomials : (Cond.selects "RecurrenceAnswers" ({ cls := "RecurrenceAnswers", name := "polynomials", desc := "()I" } : MethodName) ({ cls := "RecurrenceAnswers", name := "polynomials", desc := "()I" } : MethodName)) ∈ ga_Gl := ga_t 529 (by decide +kernel) rfl
theorem cw_X8_polynomials : (Cond.code ({ cls := "RecurrenceAnswers", name := "polynomials", desc := "()I" } : MethodName) prog_1_method_5_code (1 : Nat) (Option.some FieldType.int)) ∈ ga_Gl := ga_t 530 (by decide +kernel) rfl
theorem ml_X8_117 : (Cond.methodLink "RecurrenceAnswers" (117 : Nat) ({ cls := "RecurrenceAnswers", name := "requireAnswers", desc := "()V" } : MethodName)) ∈ ga_Gl := ga_t 531 (by decide +kernel) rfl
theorem im_X8_requireAnswers : (Cond.instanceMethod ({ cls := "RecurrenceAnswers", name := "requireAnswers", desc := "()V" } : MethodName)) ∈ ga_Gl := ga_t 533 (by decide +kernel) rfl
theorem cw_X8_requireAnswers : (Cond.code ({ cls := "RecurrenceAnswers", name := "requireAnswers", desc := "()V" } : MethodName) prog_1_method_21_code (1 : Nat) (Option.none : Option FieldType)) ∈ ga_Gl := ga_t 534 (by decide +kernel) rfl
theorem cl_X8_198 : (Cond.classLink "RecurrenceAnswers" (198 : Nat) "java/lang/IllegalStateException") ∈ ga_Gl := ga_t 535 (by decide +kernel) rfl
theorem wn_java_lang_IllegalStateException : (Cond.instantiable "java/lang/IllegalStateException" (6 : Nat)) ∈ ga_Gl := ga_t 536 (by decide +kernel) rfl
theorem sl_java_lang_Throwable_fillInStackTrace_java_lang_IllegalStateException_java_lang_IllegalStateException_2 : (Cond.selects "java/lang/IllegalStateException" ({ cls := "java/lang/Throwable", name := "fillInStackTrace", desc := "(I)Ljava/lang/Throwable;" } : MethodName) ({ cls := "java/lang/Throwable", name := "fillInStackTrace", desc := "(I)Ljava/lang/Throwable;" } : MethodName)) ∈ ga_Gl := ga_t 538 (by decide +kernel) rfl
theorem ml_X8_202 : (Cond.methodLink "RecurrenceAnswers" (202 : Nat) ({ cls := "java/lang/IllegalStateException", name := "<init>", desc := "(Ljava/lang/String;)V" } : MethodName)) ∈ ga_Gl := ga_t 545 (by decide +kernel) rfl
theorem im_java_lang_IllegalStateException__init_ : (Cond.instanceMethod ({ cls := "java/lang/IllegalStateException", name := "<init>", desc := "(Ljava/lang/String;)V" } : MethodName)) ∈ ga_Gl := ga_t 546 (by decide +kernel) rfl
theorem cw_java_lang_IllegalStateException__init_ : (Cond.code ({ cls := "java/lang/IllegalStateException", name := "<init>", desc := "(Ljava/lang/String;)V" } : MethodName) prog_16_method_2_code (2 : Nat) (Option.none : Option FieldType)) ∈ ga_Gl := ga_t 547 (by decide +kernel) rfl
theorem ml_java_lang_IllegalStateException_7 : (Cond.methodLink "java/lang/IllegalStateException" (7 : Nat) ({ cls := "java/lang/RuntimeException", name := "<init>", desc := "(Ljava/lang/String;)V" } : MethodName)) ∈ ga_Gl := ga_t 548 (by decide +kernel) rfl
theorem ml_L_97 : (Cond.methodLink "RecurrenceAnswersLaw" (97 : Nat) ({ cls := "RecurrenceAnswersLaw", name := "answer", desc := "(LRecurrenceAnswers;II[J)I" } : MethodName)) ∈ ga_Gl := ga_t 551 (by decide +kernel) rfl
theorem sm_L_answer : (Cond.static ({ cls := "RecurrenceAnswersLaw", name := "answer", desc := "(LRecurrenceAnswers;II[J)I" } : MethodName)) ∈ ga_Gl := ga_t 552 (by decide +kernel) rfl
theorem cx_L_answer : (Cond.codeWith ({ cls := "RecurrenceAnswersLaw", name := "answer", desc := "(LRecurrenceAnswers;II[J)I" } : MethodName) method_6_code (5 : Nat) (Option.some FieldType.int) [((0 : Nat), (10 : Nat), (13 : Nat), (27 : Nat)), ((0 : Nat), (10 : Nat), (17 : Nat), (15 : Nat))]) ∈ ga_Gl := ga_t 553 (by decide +kernel) rfl
theorem ml_L_29 : (Cond.methodLink "RecurrenceAnswersLaw" (29 : Nat) ({ cls := "RecurrenceAnswers", name := "answer", desc := "(II)I" } : MethodName)) ∈ ga_Gl := ga_t 554 (by decide +kernel) rfl
theorem im_X8_answer : (Cond.instanceMethod ({ cls := "RecurrenceAnswers", name := "answer", desc := "(II)I" } : MethodName)) ∈ ga_Gl := ga_t 555 (by decide +kernel) rfl
theorem sl_X8_answer : (Cond.selects "RecurrenceAnswers" ({ cls := "RecurrenceAnswers", name := "answer", desc := "(II)I" } : MethodName) ({ cls := "RecurrenceAnswers", name := "answer", desc := "(II)I" } : MethodName)) ∈ ga_Gl := ga_t 556 (by decide +kernel) rfl
theorem cw_X8_answer : (Cond.code ({ cls := "RecurrenceAnswers", name := "answer", desc := "(II)I" } : MethodName) prog_1_method_6_code (3 : Nat) (Option.some FieldType.int)) ∈ ga_Gl := ga_t 557 (by decide +kernel) rfl
theorem ml_X8_129 : (Cond.methodLink "RecurrenceAnswers" (129 : Nat) ({ cls := "RecurrenceAnswers", name := "requireAnswerPower", desc := "(I)V" } : MethodName)) ∈ ga_Gl := ga_t 558 (by decide +kernel) rfl
theorem sm_X8_requireAnswerPower : (Cond.static ({ cls := "RecurrenceAnswers", name := "requireAnswerPower", desc := "(I)V" } : MethodName)) ∈ ga_Gl := ga_t 559 (by decide +kernel) rfl
theorem cw_X8_requireAnswerPower : (Cond.code ({ cls := "RecurrenceAnswers", name := "requireAnswerPower", desc := "(I)V" } : MethodName) prog_1_method_22_code (1 : Nat) (Option.none : Option FieldType)) ∈ ga_Gl := ga_t 560 (by decide +kernel) rfl
theorem ml_X8_140 : (Cond.methodLink "RecurrenceAnswers" (140 : Nat) ({ cls := "RecurrenceAnswers$Row", name := "numberAt", desc := "(II)I" } : MethodName)) ∈ ga_Gl := ga_t 563 (by decide +kernel) rfl
theorem im_X6_numberAt : (Cond.instanceMethod ({ cls := "RecurrenceAnswers$Row", name := "numberAt", desc := "(II)I" } : MethodName)) ∈ ga_Gl := ga_t 564 (by decide +kernel) rfl
theorem sl_X6_numberAt : (Cond.selects "RecurrenceAnswers$Row" ({ cls := "RecurrenceAnswers$Row", name := "numberAt", desc := "(II)I" } : MethodName) ({ cls := "RecurrenceAnswers$Row", name := "numberAt", desc := "(II)I" } : MethodName)) ∈ ga_Gl := ga_t 565 (by decide +kernel) rfl
theorem cw_X6_numberAt : (Cond.code ({ cls := "RecurrenceAnswers$Row", name := "numberAt", desc := "(II)I" } : MethodName) prog_8_method_2_code (4 : Nat) (Option.some FieldType.int)) ∈ ga_Gl := ga_t 566 (by decide +kernel) rfl
theorem ml_L_101 : (Cond.methodLink "RecurrenceAnswersLaw" (101 : Nat) ({ cls := "RecurrenceAnswersLaw", name := "meets", desc := "(LRecurrenceAnswers;[J)I" } : MethodName)) ∈ ga_Gl := ga_t 567 (by decide +kernel) rfl
theorem sm_L_meets : (Cond.static ({ cls := "RecurrenceAnswersLaw", name := "meets", desc := "(LRecurrenceAnswers;[J)I" } : MethodName)) ∈ ga_Gl := ga_t 568 (by decide +kernel) rfl
theorem cx_L_meets : (Cond.codeWith ({ cls := "RecurrenceAnswersLaw", name := "meets", desc := "(LRecurrenceAnswers;[J)I" } : MethodName) method_7_code (3 : Nat) (Option.some FieldType.int) [((0 : Nat), (15 : Nat), (18 : Nat), (27 : Nat))]) ∈ ga_Gl := ga_t 569 (by decide +kernel) rfl
theorem ml_L_33 : (Cond.methodLink "RecurrenceAnswersLaw" (33 : Nat) ({ cls := "RecurrenceAnswers", name := "meets", desc := "()Z" } : MethodName)) ∈ ga_Gl := ga_t 570 (by decide +kernel) rfl
theorem im_X8_meets : (Cond.instanceMethod ({ cls := "RecurrenceAnswers", name := "meets", desc := "()Z" } : MethodName)) ∈ ga_Gl := ga_t 571 (by decide +kernel) rfl
theorem sl_X8_meets : (Cond.selects "RecurrenceAnswers" ({ cls := "RecurrenceAnswers", name := "meets", desc := "()Z" } : MethodName) ({ cls := "RecurrenceAnswers", name := "meets", desc := "()Z" } : MethodName)) ∈ ga_Gl := ga_t 572 (by decide +kernel) rfl
theorem cw_X8_meets : (Cond.code ({ cls := "RecurrenceAnswers", name := "meets", desc := "()Z" } : MethodName) prog_1_method_7_code (1 : Nat) (Option.some FieldType.boolean)) ∈ ga_Gl := ga_t 573 (by decide +kernel) rfl
theorem ml_L_104 : (Cond.methodLink "RecurrenceAnswersLaw" (104 : Nat) ({ cls := "RecurrenceAnswersLaw", name := "powers", desc := "(LRecurrenceAnswers;[J)I" } : MethodName)) ∈ ga_Gl := ga_t 574 (by decide +kernel) rfl
theorem sm_L_powers : (Cond.static ({ cls := "RecurrenceAnswersLaw", name := "powers", desc := "(LRecurrenceAnswers;[J)I" } : MethodName)) ∈ ga_Gl := ga_t 575 (by decide +kernel) rfl
theorem cx_L_powers : (Cond.codeWith ({ cls := "RecurrenceAnswersLaw", name := "powers", desc := "(LRecurrenceAnswers;[J)I" } : MethodName) method_8_code (3 : Nat) (Option.some FieldType.int) [((0 : Nat), (8 : Nat), (11 : Nat), (27 : Nat))]) ∈ ga_Gl := ga_t 576 (by decide +kernel) rfl
theorem ml_L_37 : (Cond.methodLink "RecurrenceAnswersLaw" (37 : Nat) ({ cls := "RecurrenceAnswers", name := "powers", desc := "()I" } : MethodName)) ∈ ga_Gl := ga_t 577 (by decide +kernel) rfl
theorem im_X8_powers : (Cond.instanceMethod ({ cls := "RecurrenceAnswers", name := "powers", desc := "()I" } : MethodName)) ∈ ga_Gl := ga_t 578 (by decide +kernel) rfl
theorem sl_X8_powers : (Cond.selects "RecurrenceAnswers" ({ cls := "RecurrenceAnswers", name := "powers", desc := "()I" } : MethodName) ({ cls := "RecurrenceAnswers", name := "powers", desc := "()I" } : MethodName)) ∈ ga_Gl := ga_t 579 (by decide +kernel) rfl
theorem cw_X8_powers : (Cond.code ({ cls := "RecurrenceAnswers", name := "powers", desc := "()I" } : MethodName) prog_1_method_8_code (1 : Nat) (Option.some FieldType.int)) ∈ ga_Gl := ga_t 580 (by decide +kernel) rfl
theorem ml_L_107 : (Cond.methodLink "RecurrenceAnswersLaw" (107 : Nat) ({ cls := "RecurrenceAnswersLaw", name := "base", desc := "(LRecurrenceAnswers;I[J)I" } : MethodName)) ∈ ga_Gl := ga_t 581 (by decide +kernel) rfl
theorem sm_L_base : (Cond.static ({ cls := "RecurrenceAnswersLaw", name := "base", desc := "(LRecurrenceAnswers;I[J)I" } : MethodName)) ∈ ga_Gl := ga_t 582 (by decide +kernel) rfl
theorem cx_L_base : (Cond.codeWith ({ cls := "RecurrenceAnswersLaw", name := "base", desc := "(LRecurrenceAnswers;I[J)I" } : MethodName) method_9_code (4 : Nat) (Option.some FieldType.int) [((0 : Nat), (9 : Nat), (12 : Nat), (27 : Nat))]) ∈ ga_Gl := ga_t 583 (by decide +kernel) rfl
theorem ml_L_40 : (Cond.methodLink "RecurrenceAnswersLaw" (40 : Nat) ({ cls := "RecurrenceAnswers", name := "base", desc := "(I)I" } : MethodName)) ∈ ga_Gl := ga_t 584 (by decide +kernel) rfl
theorem im_X8_base : (Cond.instanceMethod ({ cls := "RecurrenceAnswers", name := "base", desc := "(I)I" } : MethodName)) ∈ ga_Gl := ga_t 585 (by decide +kernel) rfl
theorem sl_X8_base : (Cond.selects "RecurrenceAnswers" ({ cls := "RecurrenceAnswers", name := "base", desc := "(I)I" } : MethodName) ({ cls := "RecurrenceAnswers", name := "base", desc := "(I)I" } : MethodName)) ∈ ga_Gl := ga_t 586 (by decide +kernel) rfl
theorem cw_X8_base : (Cond.code ({ cls := "RecurrenceAnswers", name := "base", desc := "(I)I" } : MethodName) prog_1_method_9_code (2 : Nat) (Option.some FieldType.int)) ∈ ga_Gl := ga_t 587 (by decide +kernel) rfl
theorem ml_X8_146 : (Cond.methodLink "RecurrenceAnswers" (146 : Nat) ({ cls := "RecurrenceAnswers$Answers", name := "hasBase", desc := "(I)Z" } : MethodName)) ∈ ga_Gl := ga_t 588 (by decide +kernel) rfl
theorem im_X0_hasBase : (Cond.instanceMethod ({ cls := "RecurrenceAnswers$Answers", name := "hasBase", desc := "(I)Z" } : MethodName)) ∈ ga_Gl := ga_t 589 (by decide +kernel) rfl
theorem sl_X0_hasBase : (Cond.selects "RecurrenceAnswers$Answers" ({ cls := "RecurrenceAnswers$Answers", name := "hasBase", desc := "(I)Z" } : MethodName) ({ cls := "RecurrenceAnswers$Answers", name := "hasBase", desc := "(I)Z" } : MethodName)) ∈ ga_Gl := ga_t 590 (by decide +kernel) rfl
theorem cw_X0_hasBase : (Cond.code ({ cls := "RecurrenceAnswers$Answers", name := "hasBase", desc := "(I)Z" } : MethodName) prog_2_method_2_code (2 : Nat) (Option.some FieldType.boolean)) ∈ ga_Gl := ga_t 591 (by decide +kernel) rfl
theorem ml_L_111 : (Cond.methodLink "RecurrenceAnswersLaw" (111 : Nat) ({ cls := "RecurrenceAnswersLaw", name := "many", desc := "(LRecurrenceAnswers;I[J)I" } : MethodName)) ∈ ga_Gl := ga_t 592 (by decide +kernel) rfl
theorem sm_L_many : (Cond.static ({ cls := "RecurrenceAnswersLaw", name := "many", desc := "(LRecurrenceAnswers;I[J)I" } : MethodName)) ∈ ga_Gl := ga_t 593 (by decide +kernel) rfl
theorem cx_L_many : (Cond.codeWith ({ cls := "RecurrenceAnswersLaw", name := "many", desc := "(LRecurrenceAnswers;I[J)I" } : MethodName) method_10_code (4 : Nat) (Option.some FieldType.int) [((0 : Nat), (9 : Nat), (12 : Nat), (27 : Nat))]) ∈ ga_Gl := ga_t 594 (by decide +kernel) rfl
theorem ml_L_44 : (Cond.methodLink "RecurrenceAnswersLaw" (44 : Nat) ({ cls := "RecurrenceAnswers", name := "many", desc := "(I)I" } : MethodName)) ∈ ga_Gl := ga_t 595 (by decide +kernel) rfl
theorem im_X8_many : (Cond.instanceMethod ({ cls := "RecurrenceAnswers", name := "many", desc := "(I)I" } : MethodName)) ∈ ga_Gl := ga_t 596 (by decide +kernel) rfl
theorem sl_X8_many : (Cond.selects "RecurrenceAnswers" ({ cls := "RecurrenceAnswers", name := "many", desc := "(I)I" } : MethodName) ({ cls := "RecurrenceAnswers", name := "many", desc := "(I)I" } : MethodName)) ∈ ga_Gl := ga_t 597 (by decide +kernel) rfl
theorem cw_X8_many : (Cond.code ({ cls := "RecurrenceAnswers", name := "many", desc := "(I)I" } : MethodName) prog_1_method_10_code (2 : Nat) (Option.some FieldType.int)) ∈ ga_Gl := ga_t 598 (by decide +kernel) rfl
theorem ml_L_114 : (Cond.methodLink "RecurrenceAnswersLaw" (114 : Nat) ({ cls := "RecurrenceAnswersLaw", name := "times", desc := "(LRecurrenceAnswers;III[J)I" } : MethodName)) ∈ ga_Gl := ga_t 599 (by decide +kernel) rfl
theorem sm_L_times : (Cond.static ({ cls := "RecurrenceAnswersLaw", name := "times", desc := "(LRecurrenceAnswers;III[J)I" } : MethodName)) ∈ ga_Gl := ga_t 600 (by decide +kernel) rfl
theorem cx_L_times : (Cond.codeWith ({ cls := "RecurrenceAnswersLaw", name := "times", desc := "(LRecurrenceAnswers;III[J)I" } : MethodName) method_11_code (6 : Nat) (Option.some FieldType.int) [((0 : Nat), (12 : Nat), (15 : Nat), (27 : Nat)), ((0 : Nat), (12 : Nat), (19 : Nat), (15 : Nat))]) ∈ ga_Gl := ga_t 601 (by decide +kernel) rfl
theorem ml_L_47 : (Cond.methodLink "RecurrenceAnswersLaw" (47 : Nat) ({ cls := "RecurrenceAnswers", name := "times", desc := "(III)I" } : MethodName)) ∈ ga_Gl := ga_t 602 (by decide +kernel) rfl
theorem im_X8_times : (Cond.instanceMethod ({ cls := "RecurrenceAnswers", name := "times", desc := "(III)I" } : MethodName)) ∈ ga_Gl := ga_t 603 (by decide +kernel) rfl
theorem sl_X8_times : (Cond.selects "RecurrenceAnswers" ({ cls := "RecurrenceAnswers", name := "times", desc := "(III)I" } : MethodName) ({ cls := "RecurrenceAnswers", name := "times", desc := "(III)I" } : MethodName)) ∈ ga_Gl := ga_t 604 (by decide +kernel) rfl
theorem cw_X8_times : (Cond.code ({ cls := "RecurrenceAnswers", name := "times", desc := "(III)I" } : MethodName) prog_1_method_11_code (4 : Nat) (Option.some FieldType.int)) ∈ ga_Gl := ga_t 605 (by decide +kernel) rfl
theorem ml_L_123 : (Cond.methodLink "RecurrenceAnswersLaw" (123 : Nat) ({ cls := "RecurrenceAnswersLaw", name := "value", desc := "(LRecurrenceAnswers;I[J)I" } : MethodName)) ∈ ga_Gl := ga_t 606 (by decide +kernel) rfl
theorem sm_L_value : (Cond.static ({ cls := "RecurrenceAnswersLaw", name := "value", desc := "(LRecurrenceAnswers;I[J)I" } : MethodName)) ∈ ga_Gl := ga_t 607 (by decide +kernel) rfl
theorem cx_L_value : (Cond.codeWith ({ cls := "RecurrenceAnswersLaw", name := "value", desc := "(LRecurrenceAnswers;I[J)I" } : MethodName) method_12_code (4 : Nat) (Option.some FieldType.int) [((0 : Nat), (9 : Nat), (12 : Nat), (15 : Nat))]) ∈ ga_Gl := ga_t 608 (by decide +kernel) rfl
theorem ml_L_51 : (Cond.methodLink "RecurrenceAnswersLaw" (51 : Nat) ({ cls := "RecurrenceAnswers", name := "value", desc := "(I)I" } : MethodName)) ∈ ga_Gl := ga_t 609 (by decide +kernel) rfl
theorem im_X8_value : (Cond.instanceMethod ({ cls := "RecurrenceAnswers", name := "value", desc := "(I)I" } : MethodName)) ∈ ga_Gl := ga_t 610 (by decide +kernel) rfl
theorem sl_X8_value : (Cond.selects "RecurrenceAnswers" ({ cls := "RecurrenceAnswers", name := "value", desc := "(I)I" } : MethodName) ({ cls := "RecurrenceAnswers", name := "value", desc := "(I)I" } : MethodName)) ∈ ga_Gl := ga_t 611 (by decide +kernel) rfl
theorem cw_X8_value : (Cond.code ({ cls := "RecurrenceAnswers", name := "value", desc := "(I)I" } : MethodName) prog_1_method_13_code (2 : Nat) (Option.some FieldType.int)) ∈ ga_Gl := ga_t 612 (by decide +kernel) rfl
theorem ml_X8_162 : (Cond.methodLink "RecurrenceAnswers" (162 : Nat) ({ cls := "RecurrenceAnswers$Values", name := "at", desc := "(LRecurrenceAnswers$Equation;I)I" } : MethodName)) ∈ ga_Gl := ga_t 614 (by decide +kernel) rfl
theorem im_X7_at : (Cond.instanceMethod ({ cls := "RecurrenceAnswers$Values", name := "at", desc := "(LRecurrenceAnswers$Equation;I)I" } : MethodName)) ∈ ga_Gl := ga_t 615 (by decide +kernel) rfl
theorem sl_X7_at : (Cond.selects "RecurrenceAnswers$Values" ({ cls := "RecurrenceAnswers$Values", name := "at", desc := "(LRecurrenceAnswers$Equation;I)I" } : MethodName) ({ cls := "RecurrenceAnswers$Values", name := "at", desc := "(LRecurrenceAnswers$Equation;I)I" } : MethodName)) ∈ ga_Gl := ga_t 616 (by decide +kernel) rfl
theorem cw_X7_at : (Cond.code ({ cls := "RecurrenceAnswers$Values", name := "at", desc := "(LRecurrenceAnswers$Equation;I)I" } : MethodName) prog_9_method_5_code (7 : Nat) (Option.some FieldType.int)) ∈ ga_Gl := ga_t 617 (by decide +kernel) rfl
theorem ml_X7_22 : (Cond.methodLink "RecurrenceAnswers$Values" (22 : Nat) ({ cls := "RecurrenceAnswers$Equation", name := "greatestShift", desc := "()I" } : MethodName)) ∈ ga_Gl := ga_t 618 (by decide +kernel) rfl
theorem ml_X7_32 : (Cond.methodLink "RecurrenceAnswers$Values" (32 : Nat) ({ cls := "RecurrenceAnswers$Polynomials", name := "valueAt", desc := "([II)I" } : MethodName)) ∈ ga_Gl := ga_t 619 (by decide +kernel) rfl
theorem sm_X4_valueAt : (Cond.static ({ cls := "RecurrenceAnswers$Polynomials", name := "valueAt", desc := "([II)I" } : MethodName)) ∈ ga_Gl := ga_t 620 (by decide +kernel) rfl
theorem cw_X4_valueAt : (Cond.code ({ cls := "RecurrenceAnswers$Polynomials", name := "valueAt", desc := "([II)I" } : MethodName) prog_6_method_3_code (4 : Nat) (Option.some FieldType.int)) ∈ ga_Gl := ga_t 621 (by decide +kernel) rfl
theorem ml_X7_38 : (Cond.methodLink "RecurrenceAnswers$Values" (38 : Nat) ({ cls := "RecurrenceAnswers$Values", name := "demand", desc := "(LRecurrenceAnswers$Equation;II)I" } : MethodName)) ∈ ga_Gl := ga_t 622 (by decide +kernel) rfl
theorem im_X7_demand : (Cond.instanceMethod ({ cls := "RecurrenceAnswers$Values", name := "demand", desc := "(LRecurrenceAnswers$Equation;II)I" } : MethodName)) ∈ ga_Gl := ga_t 624 (by decide +kernel) rfl
theorem cw_X7_demand : (Cond.code ({ cls := "RecurrenceAnswers$Values", name := "demand", desc := "(LRecurrenceAnswers$Equation;II)I" } : MethodName) prog_9_method_6_code (7 : Nat) (Option.some FieldType.int)) ∈ ga_Gl := ga_t 625 (by decide +kernel) rfl
theorem ml_X7_51 : (Cond.methodLink "RecurrenceAnswers$Values" (51 : Nat) ({ cls := "RecurrenceAnswers$Numbers", name := "less", desc := "(III)I" } : MethodName)) ∈ ga_Gl := ga_t 626 (by decide +kernel) rfl
theorem ml_X7_42 : (Cond.methodLink "RecurrenceAnswers$Values" (42 : Nat) ({ cls := "RecurrenceAnswers$Numbers", name := "inverse", desc := "(I)I" } : MethodName)) ∈ ga_Gl := ga_t 627 (by decide +kernel) rfl
theorem ml_L_130 : (Cond.methodLink "RecurrenceAnswersLaw" (130 : Nat) ({ cls := "RecurrenceAnswersLaw", name := "end", desc := "(LRecurrenceAnswers;I[J)I" } : MethodName)) ∈ ga_Gl := ga_t 628 (by decide +kernel) rfl
theorem sm_L_end : (Cond.static ({ cls := "RecurrenceAnswersLaw", name := "end", desc := "(LRecurrenceAnswers;I[J)I" } : MethodName)) ∈ ga_Gl := ga_t 629 (by decide +kernel) rfl
theorem cx_L_end : (Cond.codeWith ({ cls := "RecurrenceAnswersLaw", name := "end", desc := "(LRecurrenceAnswers;I[J)I" } : MethodName) method_13_code (4 : Nat) (Option.some FieldType.int) [((0 : Nat), (9 : Nat), (12 : Nat), (15 : Nat))]) ∈ ga_Gl := ga_t 630 (by decide +kernel) rfl
theorem ml_L_54 : (Cond.methodLink "RecurrenceAnswersLaw" (54 : Nat) ({ cls := "RecurrenceAnswers", name := "end", desc := "(I)I" } : MethodName)) ∈ ga_Gl := ga_t 631 (by decide +kernel) rfl
theorem im_X8_end : (Cond.instanceMethod ({ cls := "RecurrenceAnswers", name := "end", desc := "(I)I" } : MethodName)) ∈ ga_Gl := ga_t 632 (by decide +kernel) rfl
theorem sl_X8_end : (Cond.selects "RecurrenceAnswers" ({ cls := "RecurrenceAnswers", name := "end", desc := "(I)I" } : MethodName) ({ cls := "RecurrenceAnswers", name := "end", desc := "(I)I" } : MethodName)) ∈ ga_Gl := ga_t 633 (by decide +kernel) rfl
theorem cw_X8_end : (Cond.code ({ cls := "RecurrenceAnswers", name := "end", desc := "(I)I" } : MethodName) prog_1_method_15_code (2 : Nat) (Option.some FieldType.int)) ∈ ga_Gl := ga_t 634 (by decide +kernel) rfl
theorem ml_X8_177 : (Cond.methodLink "RecurrenceAnswers" (177 : Nat) ({ cls := "RecurrenceAnswers$Equation", name := "leastShift", desc := "()I" } : MethodName)) ∈ ga_Gl := ga_t 636 (by decide +kernel) rfl
theorem im_X1_leastShift : (Cond.instanceMethod ({ cls := "RecurrenceAnswers$Equation", name := "leastShift", desc := "()I" } : MethodName)) ∈ ga_Gl := ga_t 637 (by decide +kernel) rfl
theorem sl_X1_leastShift : (Cond.selects "RecurrenceAnswers$Equation" ({ cls := "RecurrenceAnswers$Equation", name := "leastShift", desc := "()I" } : MethodName) ({ cls := "RecurrenceAnswers$Equation", name := "leastShift", desc := "()I" } : MethodName)) ∈ ga_Gl := ga_t 638 (by decide +kernel) rfl
theorem cw_X1_leastShift : (Cond.code ({ cls := "RecurrenceAnswers$Equation", name := "leastShift", desc := "()I" } : MethodName) prog_3_method_2_code (2 : Nat) (Option.some FieldType.int)) ∈ ga_Gl := ga_t 639 (by decide +kernel) rfl
theorem ml_L_133 : (Cond.methodLink "RecurrenceAnswersLaw" (133 : Nat) ({ cls := "RecurrenceAnswersLaw", name := "rest", desc := "(LRecurrenceAnswers;I[J)I" } : MethodName)) ∈ ga_Gl := ga_t 640 (by decide +kernel) rfl
theorem sm_L_rest : (Cond.static ({ cls := "RecurrenceAnswersLaw", name := "rest", desc := "(LRecurrenceAnswers;I[J)I" } : MethodName)) ∈ ga_Gl := ga_t 641 (by decide +kernel) rfl
theorem cx_L_rest : (Cond.codeWith ({ cls := "RecurrenceAnswersLaw", name := "rest", desc := "(LRecurrenceAnswers;I[J)I" } : MethodName) method_14_code (4 : Nat) (Option.some FieldType.int) [((0 : Nat), (9 : Nat), (12 : Nat), (15 : Nat))]) ∈ ga_Gl := ga_t 642 (by decide +kernel) rfl
theorem ml_L_57 : (Cond.methodLink "RecurrenceAnswersLaw" (57 : Nat) ({ cls := "RecurrenceAnswers", name := "rest", desc := "(I)I" } : MethodName)) ∈ ga_Gl := ga_t 643 (by decide +kernel) rfl
theorem im_X8_rest : (Cond.instanceMethod ({ cls := "RecurrenceAnswers", name := "rest", desc := "(I)I" } : MethodName)) ∈ ga_Gl := ga_t 644 (by decide +kernel) rfl
theorem sl_X8_rest : (Cond.selects "RecurrenceAnswers" ({ cls := "RecurrenceAnswers", name := "rest", desc := "(I)I" } : MethodName) ({ cls := "RecurrenceAnswers", name := "rest", desc := "(I)I" } : MethodName)) ∈ ga_Gl := ga_t 645 (by decide +kernel) rfl
theorem cw_X8_rest : (Cond.code ({ cls := "RecurrenceAnswers", name := "rest", desc := "(I)I" } : MethodName) prog_1_method_16_code (2 : Nat) (Option.some FieldType.int)) ∈ ga_Gl := ga_t 646 (by decide +kernel) rfl
theorem ml_X8_182 : (Cond.methodLink "RecurrenceAnswers" (182 : Nat) ({ cls := "RecurrenceAnswers$LinearSystem", name := "fill", desc := "(LRecurrenceAnswers$Equation;I)V" } : MethodName)) ∈ ga_Gl := ga_t 648 (by decide +kernel) rfl
theorem ml_X8_186 : (Cond.methodLink "RecurrenceAnswers" (186 : Nat) ({ cls := "RecurrenceAnswers$LinearSystem", name := "leftOver", desc := "([II)I" } : MethodName)) ∈ ga_Gl := ga_t 649 (by decide +kernel) rfl
theorem im_X2_leftOver : (Cond.instanceMethod ({ cls := "RecurrenceAnswers$LinearSystem", name := "leftOver", desc := "([II)I" } : MethodName)) ∈ ga_Gl := ga_t 650 (by decide +kernel) rfl
theorem sl_X2_leftOver : (Cond.selects "RecurrenceAnswers$LinearSystem" ({ cls := "RecurrenceAnswers$LinearSystem", name := "leftOver", desc := "([II)I" } : MethodName) ({ cls := "RecurrenceAnswers$LinearSystem", name := "leftOver", desc := "([II)I" } : MethodName)) ∈ ga_Gl := ga_t 651 (by decide +kernel) rfl
theorem cw_X2_leftOver : (Cond.code ({ cls := "RecurrenceAnswers$LinearSystem", name := "leftOver", desc := "([II)I" } : MethodName) prog_4_method_4_code (5 : Nat) (Option.some FieldType.int)) ∈ ga_Gl := ga_t 652 (by decide +kernel) rfl
theorem ml_L_136 : (Cond.methodLink "RecurrenceAnswersLaw" (136 : Nat) ({ cls := "RecurrenceAnswersLaw", name := "put", desc := "(LRecurrenceAnswers;II[J)I" } : MethodName)) ∈ ga_Gl := ga_t 653 (by decide +kernel) rfl
theorem sm_L_put : (Cond.static ({ cls := "RecurrenceAnswersLaw", name := "put", desc := "(LRecurrenceAnswers;II[J)I" } : MethodName)) ∈ ga_Gl := ga_t 654 (by decide +kernel) rfl
theorem cx_L_put : (Cond.codeWith ({ cls := "RecurrenceAnswersLaw", name := "put", desc := "(LRecurrenceAnswers;II[J)I" } : MethodName) method_15_code (5 : Nat) (Option.some FieldType.int) [((0 : Nat), (17 : Nat), (20 : Nat), (15 : Nat))]) ∈ ga_Gl := ga_t 655 (by decide +kernel) rfl
theorem ml_L_60 : (Cond.methodLink "RecurrenceAnswersLaw" (60 : Nat) ({ cls := "RecurrenceAnswers", name := "put", desc := "(II)Z" } : MethodName)) ∈ ga_Gl := ga_t 656 (by decide +kernel) rfl
theorem im_X8_put : (Cond.instanceMethod ({ cls := "RecurrenceAnswers", name := "put", desc := "(II)Z" } : MethodName)) ∈ ga_Gl := ga_t 657 (by decide +kernel) rfl
theorem sl_X8_put : (Cond.selects "RecurrenceAnswers" ({ cls := "RecurrenceAnswers", name := "put", desc := "(II)Z" } : MethodName) ({ cls := "RecurrenceAnswers", name := "put", desc := "(II)Z" } : MethodName)) ∈ ga_Gl := ga_t 658 (by decide +kernel) rfl
theorem cw_X8_put : (Cond.code ({ cls := "RecurrenceAnswers", name := "put", desc := "(II)Z" } : MethodName) prog_1_method_17_code (5 : Nat) (Option.some FieldType.boolean)) ∈ ga_Gl := ga_t 659 (by decide +kernel) rfl
theorem cl_L_73 : (Cond.classLink "RecurrenceAnswersLaw" (73 : Nat) "RecurrenceAnswersModel") ∈ ga_Gl := ga_t 660 (by decide +kernel) rfl
theorem wn_X9 : (Cond.instantiable "RecurrenceAnswersModel" (22 : Nat)) ∈ ga_Gl := ga_t 661 (by decide +kernel) rfl
theorem ml_L_75 : (Cond.methodLink "RecurrenceAnswersLaw" (75 : Nat) ({ cls := "RecurrenceAnswersModel", name := "<init>", desc := "(I)V" } : MethodName)) ∈ ga_Gl := ga_t 662 (by decide +kernel) rfl
theorem im_X9_init : (Cond.instanceMethod ({ cls := "RecurrenceAnswersModel", name := "<init>", desc := "(I)V" } : MethodName)) ∈ ga_Gl := ga_t 663 (by decide +kernel) rfl
theorem cw_X9_init : (Cond.code ({ cls := "RecurrenceAnswersModel", name := "<init>", desc := "(I)V" } : MethodName) prog_11_method_1_code (2 : Nat) (Option.none : Option FieldType)) ∈ ga_Gl := ga_t 664 (by decide +kernel) rfl
theorem ml_X9_1 : (Cond.methodLink "RecurrenceAnswersModel" (1 : Nat) ({ cls := "java/lang/Object", name := "<init>", desc := "()V" } : MethodName)) ∈ ga_Gl := ga_t 665 (by decide +kernel) rfl
theorem fl_X9_7 : (Cond.fieldLink "RecurrenceAnswersModel" (7 : Nat) "RecurrenceAnswersModel" "thrownCode" "I") ∈ ga_Gl := ga_t 666 (by decide +kernel) rfl
theorem fl_X9_75 : (Cond.fieldLink "RecurrenceAnswersModel" (75 : Nat) "RecurrenceAnswersModel" "order" "I") ∈ ga_Gl := ga_t 667 (by decide +kernel) rfl
theorem fl_X9_13 : (Cond.fieldLink "RecurrenceAnswersModel" (13 : Nat) "RecurrenceAnswersModel" "factors" "[I") ∈ ga_Gl := ga_t 668 (by decide +kernel) rfl
theorem fl_X9_17 : (Cond.fieldLink "RecurrenceAnswersModel" (17 : Nat) "RecurrenceAnswersModel" "side" "[I") ∈ ga_Gl := ga_t 669 (by decide +kernel) rfl
theorem fl_X9_20 : (Cond.fieldLink "RecurrenceAnswersModel" (20 : Nat) "RecurrenceAnswersModel" "starts" "[I") ∈ ga_Gl := ga_t 670 (by decide +kernel) rfl
theorem fl_X9_23 : (Cond.fieldLink "RecurrenceAnswersModel" (23 : Nat) "RecurrenceAnswersModel" "started" "I") ∈ ga_Gl := ga_t 671 (by decide +kernel) rfl
theorem fl_X9_26 : (Cond.fieldLink "RecurrenceAnswersModel" (26 : Nat) "RecurrenceAnswersModel" "puts" "[I") ∈ ga_Gl := ga_t 672 (by decide +kernel) rfl
theorem fl_X9_29 : (Cond.fieldLink "RecurrenceAnswersModel" (29 : Nat) "RecurrenceAnswersModel" "values" "[I") ∈ ga_Gl := ga_t 673 (by decide +kernel) rfl
theorem fl_X9_32 : (Cond.fieldLink "RecurrenceAnswersModel" (32 : Nat) "RecurrenceAnswersModel" "known" "Z") ∈ ga_Gl := ga_t 674 (by decide +kernel) rfl
theorem fl_X9_36 : (Cond.fieldLink "RecurrenceAnswersModel" (36 : Nat) "RecurrenceAnswersModel" "polynomials" "I") ∈ ga_Gl := ga_t 675 (by decide +kernel) rfl
theorem fl_X9_39 : (Cond.fieldLink "RecurrenceAnswersModel" (39 : Nat) "RecurrenceAnswersModel" "row" "[I") ∈ ga_Gl := ga_t 676 (by decide +kernel) rfl
theorem fl_X9_42 : (Cond.fieldLink "RecurrenceAnswersModel" (42 : Nat) "RecurrenceAnswersModel" "meets" "Z") ∈ ga_Gl := ga_t 677 (by decide +kernel) rfl
theorem fl_X9_45 : (Cond.fieldLink "RecurrenceAnswersModel" (45 : Nat) "RecurrenceAnswersModel" "particular" "[I") ∈ ga_Gl := ga_t 678 (by decide +kernel) rfl
theorem fl_X9_48 : (Cond.fieldLink "RecurrenceAnswersModel" (48 : Nat) "RecurrenceAnswersModel" "powers" "I") ∈ ga_Gl := ga_t 679 (by decide +kernel) rfl
theorem fl_X9_51 : (Cond.fieldLink "RecurrenceAnswersModel" (51 : Nat) "RecurrenceAnswersModel" "bases" "[I") ∈ ga_Gl := ga_t 680 (by decide +kernel) rfl
theorem fl_X9_54 : (Cond.fieldLink "RecurrenceAnswersModel" (54 : Nat) "RecurrenceAnswersModel" "many" "[I") ∈ ga_Gl := ga_t 681 (by decide +kernel) rfl
theorem fl_X9_57 : (Cond.fieldLink "RecurrenceAnswersModel" (57 : Nat) "RecurrenceAnswersModel" "times" "[I") ∈ ga_Gl := ga_t 682 (by decide +kernel) rfl
theorem fl_X9_60 : (Cond.fieldLink "RecurrenceAnswersModel" (60 : Nat) "RecurrenceAnswersModel" "table" "[I") ∈ ga_Gl := ga_t 683 (by decide +kernel) rfl
theorem fl_X9_63 : (Cond.fieldLink "RecurrenceAnswersModel" (63 : Nat) "RecurrenceAnswersModel" "image" "[I") ∈ ga_Gl := ga_t 684 (by decide +kernel) rfl
theorem fl_X9_66 : (Cond.fieldLink "RecurrenceAnswersModel" (66 : Nat) "RecurrenceAnswersModel" "shifted" "[I") ∈ ga_Gl := ga_t 685 (by decide +kernel) rfl
theorem fl_X9_69 : (Cond.fieldLink "RecurrenceAnswersModel" (69 : Nat) "RecurrenceAnswersModel" "pivot" "[I") ∈ ga_Gl := ga_t 686 (by decide +kernel) rfl
theorem fl_X9_72 : (Cond.fieldLink "RecurrenceAnswersModel" (72 : Nat) "RecurrenceAnswersModel" "unit" "[I") ∈ ga_Gl := ga_t 687 (by decide +kernel) rfl
theorem ml_L_82 : (Cond.methodLink "RecurrenceAnswersLaw" (82 : Nat) ({ cls := "RecurrenceAnswersModel", name := "thrown", desc := "()I" } : MethodName)) ∈ ga_Gl := ga_t 733 (by decide +kernel) rfl
theorem im_X9_thrown : (Cond.instanceMethod ({ cls := "RecurrenceAnswersModel", name := "thrown", desc := "()I" } : MethodName)) ∈ ga_Gl := ga_t 734 (by decide +kernel) rfl
theorem sl_X9_thrown : (Cond.selects "RecurrenceAnswersModel" ({ cls := "RecurrenceAnswersModel", name := "thrown", desc := "()I" } : MethodName) ({ cls := "RecurrenceAnswersModel", name := "thrown", desc := "()I" } : MethodName)) ∈ ga_Gl := ga_t 735 (by decide +kernel) rfl
theorem cw_X9_thrown : (Cond.code ({ cls := "RecurrenceAnswersModel", name := "thrown", desc := "()I" } : MethodName) prog_11_method_13_code (1 : Nat) (Option.some FieldType.int)) ∈ ga_Gl := ga_t 736 (by decide +kernel) rfl
theorem ml_L_81 : (Cond.methodLink "RecurrenceAnswersLaw" (81 : Nat) ({ cls := "RecurrenceAnswersModel", name := "factor", desc := "(IIJJ)Z" } : MethodName)) ∈ ga_Gl := ga_t 737 (by decide +kernel) rfl
theorem im_X9_factor : (Cond.instanceMethod ({ cls := "RecurrenceAnswersModel", name := "factor", desc := "(IIJJ)Z" } : MethodName)) ∈ ga_Gl := ga_t 738 (by decide +kernel) rfl
theorem sl_X9_factor : (Cond.selects "RecurrenceAnswersModel" ({ cls := "RecurrenceAnswersModel", name := "factor", desc := "(IIJJ)Z" } : MethodName) ({ cls := "RecurrenceAnswersModel", name := "factor", desc := "(IIJJ)Z" } : MethodName)) ∈ ga_Gl := ga_t 739 (by decide +kernel) rfl
theorem cw_X9_factor : (Cond.code ({ cls := "RecurrenceAnswersModel", name := "factor", desc := "(IIJJ)Z" } : MethodName) prog_11_method_14_code (9 : Nat) (Option.some FieldType.boolean)) ∈ ga_Gl := ga_t 740 (by decide +kernel) rfl
theorem kl_X9_78 : (Cond.constantLong "RecurrenceAnswersModel" (78 : Nat) (32003 : Int64)) ∈ ga_Gl := ga_t 741 (by decide +kernel) rfl
theorem ml_X9_95 : (Cond.methodLink "RecurrenceAnswersModel" (95 : Nat) ({ cls := "RecurrenceAnswersModel", name := "modulo", desc := "(J)I" } : MethodName)) ∈ ga_Gl := ga_t 742 (by decide +kernel) rfl
theorem sm_X9_modulo : (Cond.static ({ cls := "RecurrenceAnswersModel", name := "modulo", desc := "(J)I" } : MethodName)) ∈ ga_Gl := ga_t 743 (by decide +kernel) rfl
theorem cw_X9_modulo : (Cond.code ({ cls := "RecurrenceAnswersModel", name := "modulo", desc := "(J)I" } : MethodName) prog_11_method_4_code (4 : Nat) (Option.some FieldType.int)) ∈ ga_Gl := ga_t 744 (by decide +kernel) rfl
theorem ml_X9_91 : (Cond.methodLink "RecurrenceAnswersModel" (91 : Nat) ({ cls := "RecurrenceAnswersModel", name := "inverse", desc := "(I)I" } : MethodName)) ∈ ga_Gl := ga_t 745 (by decide +kernel) rfl
theorem sm_X9_inverse : (Cond.static ({ cls := "RecurrenceAnswersModel", name := "inverse", desc := "(I)I" } : MethodName)) ∈ ga_Gl := ga_t 746 (by decide +kernel) rfl
theorem cw_X9_inverse : (Cond.code ({ cls := "RecurrenceAnswersModel", name := "inverse", desc := "(I)I" } : MethodName) prog_11_method_3_code (6 : Nat) (Option.some FieldType.int)) ∈ ga_Gl := ga_t 747 (by decide +kernel) rfl
theorem ml_L_88 : (Cond.methodLink "RecurrenceAnswersLaw" (88 : Nat) ({ cls := "RecurrenceAnswersModel", name := "right", desc := "(IJJ)Z" } : MethodName)) ∈ ga_Gl := ga_t 748 (by decide +kernel) rfl
theorem im_X9_right : (Cond.instanceMethod ({ cls := "RecurrenceAnswersModel", name := "right", desc := "(IJJ)Z" } : MethodName)) ∈ ga_Gl := ga_t 749 (by decide +kernel) rfl
theorem sl_X9_right : (Cond.selects "RecurrenceAnswersModel" ({ cls := "RecurrenceAnswersModel", name := "right", desc := "(IJJ)Z" } : MethodName) ({ cls := "RecurrenceAnswersModel", name := "right", desc := "(IJJ)Z" } : MethodName)) ∈ ga_Gl := ga_t 750 (by decide +kernel) rfl
theorem cw_X9_right : (Cond.code ({ cls := "RecurrenceAnswersModel", name := "right", desc := "(IJJ)Z" } : MethodName) prog_11_method_15_code (8 : Nat) (Option.some FieldType.boolean)) ∈ ga_Gl := ga_t 751 (by decide +kernel) rfl
theorem ml_L_92 : (Cond.methodLink "RecurrenceAnswersLaw" (92 : Nat) ({ cls := "RecurrenceAnswersModel", name := "run", desc := "()I" } : MethodName)) ∈ ga_Gl := ga_t 752 (by decide +kernel) rfl
theorem im_X9_run : (Cond.instanceMethod ({ cls := "RecurrenceAnswersModel", name := "run", desc := "()I" } : MethodName)) ∈ ga_Gl := ga_t 753 (by decide +kernel) rfl
theorem sl_X9_run : (Cond.selects "RecurrenceAnswersModel" ({ cls := "RecurrenceAnswersModel", name := "run", desc := "()I" } : MethodName) ({ cls := "RecurrenceAnswersModel", name := "run", desc := "()I" } : MethodName)) ∈ ga_Gl := ga_t 754 (by decide +kernel) rfl
theorem cw_X9_run : (Cond.code ({ cls := "RecurrenceAnswersModel", name := "run", desc := "()I" } : MethodName) prog_11_method_16_code (7 : Nat) (Option.some FieldType.int)) ∈ ga_Gl := ga_t 755 (by decide +kernel) rfl
theorem ml_X9_99 : (Cond.methodLink "RecurrenceAnswersModel" (99 : Nat) ({ cls := "RecurrenceAnswersModel", name := "greatest", desc := "()I" } : MethodName)) ∈ ga_Gl := ga_t 756 (by decide +kernel) rfl
theorem im_X9_greatest : (Cond.instanceMethod ({ cls := "RecurrenceAnswersModel", name := "greatest", desc := "()I" } : MethodName)) ∈ ga_Gl := ga_t 758 (by decide +kernel) rfl
theorem cw_X9_greatest : (Cond.code ({ cls := "RecurrenceAnswersModel", name := "greatest", desc := "()I" } : MethodName) prog_11_method_11_code (3 : Nat) (Option.some FieldType.int)) ∈ ga_Gl := ga_t 759 (by decide +kernel) rfl
theorem ml_X9_103 : (Cond.methodLink "RecurrenceAnswersModel" (103 : Nat) ({ cls := "RecurrenceAnswersModel", name := "fill", desc := "(I)V" } : MethodName)) ∈ ga_Gl := ga_t 760 (by decide +kernel) rfl
theorem im_X9_fill : (Cond.instanceMethod ({ cls := "RecurrenceAnswersModel", name := "fill", desc := "(I)V" } : MethodName)) ∈ ga_Gl := ga_t 762 (by decide +kernel) rfl
theorem cw_X9_fill : (Cond.code ({ cls := "RecurrenceAnswersModel", name := "fill", desc := "(I)V" } : MethodName) prog_11_method_8_code (5 : Nat) (Option.none : Option FieldType)) ∈ ga_Gl := ga_t 763 (by decide +kernel) rfl
theorem ml_X9_88 : (Cond.methodLink "RecurrenceAnswersModel" (88 : Nat) ({ cls := "RecurrenceAnswersModel", name := "apply", desc := "([II)V" } : MethodName)) ∈ ga_Gl := ga_t 764 (by decide +kernel) rfl
theorem im_X9_apply : (Cond.instanceMethod ({ cls := "RecurrenceAnswersModel", name := "apply", desc := "([II)V" } : MethodName)) ∈ ga_Gl := ga_t 766 (by decide +kernel) rfl
theorem cw_X9_apply : (Cond.code ({ cls := "RecurrenceAnswersModel", name := "apply", desc := "([II)V" } : MethodName) prog_11_method_6_code (10 : Nat) (Option.none : Option FieldType)) ∈ ga_Gl := ga_t 767 (by decide +kernel) rfl
theorem ml_X9_80 : (Cond.methodLink "RecurrenceAnswersModel" (80 : Nat) ({ cls := "RecurrenceAnswersModel", name := "shift", desc := "([II)V" } : MethodName)) ∈ ga_Gl := ga_t 768 (by decide +kernel) rfl
theorem im_X9_shift : (Cond.instanceMethod ({ cls := "RecurrenceAnswersModel", name := "shift", desc := "([II)V" } : MethodName)) ∈ ga_Gl := ga_t 770 (by decide +kernel) rfl
theorem cw_X9_shift : (Cond.code ({ cls := "RecurrenceAnswersModel", name := "shift", desc := "([II)V" } : MethodName) prog_11_method_7_code (5 : Nat) (Option.none : Option FieldType)) ∈ ga_Gl := ga_t 771 (by decide +kernel) rfl
theorem ml_X9_84 : (Cond.methodLink "RecurrenceAnswersModel" (84 : Nat) ({ cls := "RecurrenceAnswersModel", name := "power", desc := "(II)I" } : MethodName)) ∈ ga_Gl := ga_t 772 (by decide +kernel) rfl
theorem sm_X9_power : (Cond.static ({ cls := "RecurrenceAnswersModel", name := "power", desc := "(II)I" } : MethodName)) ∈ ga_Gl := ga_t 773 (by decide +kernel) rfl
theorem cw_X9_power : (Cond.code ({ cls := "RecurrenceAnswersModel", name := "power", desc := "(II)I" } : MethodName) prog_11_method_2_code (5 : Nat) (Option.some FieldType.int)) ∈ ga_Gl := ga_t 774 (by decide +kernel) rfl
theorem ml_X9_107 : (Cond.methodLink "RecurrenceAnswersModel" (107 : Nat) ({ cls := "RecurrenceAnswersModel", name := "clears", desc := "()I" } : MethodName)) ∈ ga_Gl := ga_t 775 (by decide +kernel) rfl
theorem im_X9_clears : (Cond.instanceMethod ({ cls := "RecurrenceAnswersModel", name := "clears", desc := "()I" } : MethodName)) ∈ ga_Gl := ga_t 777 (by decide +kernel) rfl
theorem cw_X9_clears : (Cond.code ({ cls := "RecurrenceAnswersModel", name := "clears", desc := "()I" } : MethodName) prog_11_method_9_code (10 : Nat) (Option.some FieldType.int)) ∈ ga_Gl := ga_t 778 (by decide +kernel) rfl
theorem ml_X9_110 : (Cond.methodLink "RecurrenceAnswersModel" (110 : Nat) ({ cls := "RecurrenceAnswersModel", name := "answers", desc := "([II)I" } : MethodName)) ∈ ga_Gl := ga_t 779 (by decide +kernel) rfl
theorem im_X9_answers : (Cond.instanceMethod ({ cls := "RecurrenceAnswersModel", name := "answers", desc := "([II)I" } : MethodName)) ∈ ga_Gl := ga_t 781 (by decide +kernel) rfl
theorem cw_X9_answers : (Cond.code ({ cls := "RecurrenceAnswersModel", name := "answers", desc := "([II)I" } : MethodName) prog_11_method_10_code (7 : Nat) (Option.some FieldType.int)) ∈ ga_Gl := ga_t 782 (by decide +kernel) rfl
theorem ml_X9_114 : (Cond.methodLink "RecurrenceAnswersModel" (114 : Nat) ({ cls := "RecurrenceAnswersModel", name := "highest", desc := "()I" } : MethodName)) ∈ ga_Gl := ga_t 783 (by decide +kernel) rfl
theorem im_X9_highest : (Cond.instanceMethod ({ cls := "RecurrenceAnswersModel", name := "highest", desc := "()I" } : MethodName)) ∈ ga_Gl := ga_t 785 (by decide +kernel) rfl
theorem cw_X9_highest : (Cond.code ({ cls := "RecurrenceAnswersModel", name := "highest", desc := "()I" } : MethodName) prog_11_method_12_code (3 : Nat) (Option.some FieldType.int)) ∈ ga_Gl := ga_t 786 (by decide +kernel) rfl
theorem ml_L_96 : (Cond.methodLink "RecurrenceAnswersLaw" (96 : Nat) ({ cls := "RecurrenceAnswersModel", name := "polynomials", desc := "()I" } : MethodName)) ∈ ga_Gl := ga_t 787 (by decide +kernel) rfl
theorem im_X9_polynomials : (Cond.instanceMethod ({ cls := "RecurrenceAnswersModel", name := "polynomials", desc := "()I" } : MethodName)) ∈ ga_Gl := ga_t 788 (by decide +kernel) rfl
theorem sl_X9_polynomials : (Cond.selects "RecurrenceAnswersModel" ({ cls := "RecurrenceAnswersModel", name := "polynomials", desc := "()I" } : MethodName) ({ cls := "RecurrenceAnswersModel", name := "polynomials", desc := "()I" } : MethodName)) ∈ ga_Gl := ga_t 789 (by decide +kernel) rfl
theorem cw_X9_polynomials : (Cond.code ({ cls := "RecurrenceAnswersModel", name := "polynomials", desc := "()I" } : MethodName) prog_11_method_18_code (1 : Nat) (Option.some FieldType.int)) ∈ ga_Gl := ga_t 790 (by decide +kernel) rfl
theorem ml_X9_117 : (Cond.methodLink "RecurrenceAnswersModel" (117 : Nat) ({ cls := "RecurrenceAnswersModel", name := "unknown", desc := "()Z" } : MethodName)) ∈ ga_Gl := ga_t 791 (by decide +kernel) rfl
theorem im_X9_unknown : (Cond.instanceMethod ({ cls := "RecurrenceAnswersModel", name := "unknown", desc := "()Z" } : MethodName)) ∈ ga_Gl := ga_t 793 (by decide +kernel) rfl
theorem cw_X9_unknown : (Cond.code ({ cls := "RecurrenceAnswersModel", name := "unknown", desc := "()Z" } : MethodName) prog_11_method_17_code (1 : Nat) (Option.some FieldType.boolean)) ∈ ga_Gl := ga_t 794 (by decide +kernel) rfl
theorem ml_L_100 : (Cond.methodLink "RecurrenceAnswersLaw" (100 : Nat) ({ cls := "RecurrenceAnswersModel", name := "answer", desc := "(II)I" } : MethodName)) ∈ ga_Gl := ga_t 795 (by decide +kernel) rfl
theorem im_X9_answer : (Cond.instanceMethod ({ cls := "RecurrenceAnswersModel", name := "answer", desc := "(II)I" } : MethodName)) ∈ ga_Gl := ga_t 796 (by decide +kernel) rfl
theorem sl_X9_answer : (Cond.selects "RecurrenceAnswersModel" ({ cls := "RecurrenceAnswersModel", name := "answer", desc := "(II)I" } : MethodName) ({ cls := "RecurrenceAnswersModel", name := "answer", desc := "(II)I" } : MethodName)) ∈ ga_Gl := ga_t 797 (by decide +kernel) rfl
theorem cw_X9_answer : (Cond.code ({ cls := "RecurrenceAnswersModel", name := "answer", desc := "(II)I" } : MethodName) prog_11_method_19_code (3 : Nat) (Option.some FieldType.int)) ∈ ga_Gl := ga_t 798 (by decide +kernel) rfl
theorem ml_L_103 : (Cond.methodLink "RecurrenceAnswersLaw" (103 : Nat) ({ cls := "RecurrenceAnswersModel", name := "meets", desc := "()Z" } : MethodName)) ∈ ga_Gl := ga_t 799 (by decide +kernel) rfl
theorem im_X9_meets : (Cond.instanceMethod ({ cls := "RecurrenceAnswersModel", name := "meets", desc := "()Z" } : MethodName)) ∈ ga_Gl := ga_t 800 (by decide +kernel) rfl
theorem sl_X9_meets : (Cond.selects "RecurrenceAnswersModel" ({ cls := "RecurrenceAnswersModel", name := "meets", desc := "()Z" } : MethodName) ({ cls := "RecurrenceAnswersModel", name := "meets", desc := "()Z" } : MethodName)) ∈ ga_Gl := ga_t 801 (by decide +kernel) rfl
theorem cw_X9_meets : (Cond.code ({ cls := "RecurrenceAnswersModel", name := "meets", desc := "()Z" } : MethodName) prog_11_method_20_code (1 : Nat) (Option.some FieldType.boolean)) ∈ ga_Gl := ga_t 802 (by decide +kernel) rfl
theorem ml_L_106 : (Cond.methodLink "RecurrenceAnswersLaw" (106 : Nat) ({ cls := "RecurrenceAnswersModel", name := "powers", desc := "()I" } : MethodName)) ∈ ga_Gl := ga_t 803 (by decide +kernel) rfl
theorem im_X9_powers : (Cond.instanceMethod ({ cls := "RecurrenceAnswersModel", name := "powers", desc := "()I" } : MethodName)) ∈ ga_Gl := ga_t 804 (by decide +kernel) rfl
theorem sl_X9_powers : (Cond.selects "RecurrenceAnswersModel" ({ cls := "RecurrenceAnswersModel", name := "powers", desc := "()I" } : MethodName) ({ cls := "RecurrenceAnswersModel", name := "powers", desc := "()I" } : MethodName)) ∈ ga_Gl := ga_t 805 (by decide +kernel) rfl
theorem cw_X9_powers : (Cond.code ({ cls := "RecurrenceAnswersModel", name := "powers", desc := "()I" } : MethodName) prog_11_method_21_code (1 : Nat) (Option.some FieldType.int)) ∈ ga_Gl := ga_t 806 (by decide +kernel) rfl
theorem ml_L_110 : (Cond.methodLink "RecurrenceAnswersLaw" (110 : Nat) ({ cls := "RecurrenceAnswersModel", name := "base", desc := "(I)I" } : MethodName)) ∈ ga_Gl := ga_t 807 (by decide +kernel) rfl
theorem im_X9_base : (Cond.instanceMethod ({ cls := "RecurrenceAnswersModel", name := "base", desc := "(I)I" } : MethodName)) ∈ ga_Gl := ga_t 808 (by decide +kernel) rfl
theorem sl_X9_base : (Cond.selects "RecurrenceAnswersModel" ({ cls := "RecurrenceAnswersModel", name := "base", desc := "(I)I" } : MethodName) ({ cls := "RecurrenceAnswersModel", name := "base", desc := "(I)I" } : MethodName)) ∈ ga_Gl := ga_t 809 (by decide +kernel) rfl
theorem cw_X9_base : (Cond.code ({ cls := "RecurrenceAnswersModel", name := "base", desc := "(I)I" } : MethodName) prog_11_method_22_code (2 : Nat) (Option.some FieldType.int)) ∈ ga_Gl := ga_t 810 (by decide +kernel) rfl
theorem ml_L_113 : (Cond.methodLink "RecurrenceAnswersLaw" (113 : Nat) ({ cls := "RecurrenceAnswersModel", name := "many", desc := "(I)I" } : MethodName)) ∈ ga_Gl := ga_t 811 (by decide +kernel) rfl
theorem im_X9_many : (Cond.instanceMethod ({ cls := "RecurrenceAnswersModel", name := "many", desc := "(I)I" } : MethodName)) ∈ ga_Gl := ga_t 812 (by decide +kernel) rfl
theorem sl_X9_many : (Cond.selects "RecurrenceAnswersModel" ({ cls := "RecurrenceAnswersModel", name := "many", desc := "(I)I" } : MethodName) ({ cls := "RecurrenceAnswersModel", name := "many", desc := "(I)I" } : MethodName)) ∈ ga_Gl := ga_t 813 (by decide +kernel) rfl
theorem cw_X9_many : (Cond.code ({ cls := "RecurrenceAnswersModel", name := "many", desc := "(I)I" } : MethodName) prog_11_method_23_code (2 : Nat) (Option.some FieldType.int)) ∈ ga_Gl := ga_t 814 (by decide +kernel) rfl
theorem ml_L_117 : (Cond.methodLink "RecurrenceAnswersLaw" (117 : Nat) ({ cls := "RecurrenceAnswersModel", name := "times", desc := "(III)I" } : MethodName)) ∈ ga_Gl := ga_t 815 (by decide +kernel) rfl
theorem im_X9_times : (Cond.instanceMethod ({ cls := "RecurrenceAnswersModel", name := "times", desc := "(III)I" } : MethodName)) ∈ ga_Gl := ga_t 816 (by decide +kernel) rfl
theorem sl_X9_times : (Cond.selects "RecurrenceAnswersModel" ({ cls := "RecurrenceAnswersModel", name := "times", desc := "(III)I" } : MethodName) ({ cls := "RecurrenceAnswersModel", name := "times", desc := "(III)I" } : MethodName)) ∈ ga_Gl := ga_t 817 (by decide +kernel) rfl
theorem cw_X9_times : (Cond.code ({ cls := "RecurrenceAnswersModel", name := "times", desc := "(III)I" } : MethodName) prog_11_method_24_code (5 : Nat) (Option.some FieldType.int)) ∈ ga_Gl := ga_t 818 (by decide +kernel) rfl
theorem ml_L_122 : (Cond.methodLink "RecurrenceAnswersLaw" (122 : Nat) ({ cls := "RecurrenceAnswersModel", name := "start", desc := "(J)Z" } : MethodName)) ∈ ga_Gl := ga_t 819 (by decide +kernel) rfl
theorem im_X9_start : (Cond.instanceMethod ({ cls := "RecurrenceAnswersModel", name := "start", desc := "(J)Z" } : MethodName)) ∈ ga_Gl := ga_t 820 (by decide +kernel) rfl
theorem sl_X9_start : (Cond.selects "RecurrenceAnswersModel" ({ cls := "RecurrenceAnswersModel", name := "start", desc := "(J)Z" } : MethodName) ({ cls := "RecurrenceAnswersModel", name := "start", desc := "(J)Z" } : MethodName)) ∈ ga_Gl := ga_t 821 (by decide +kernel) rfl
theorem cw_X9_start : (Cond.code ({ cls := "RecurrenceAnswersModel", name := "start", desc := "(J)Z" } : MethodName) prog_11_method_25_code (3 : Nat) (Option.some FieldType.boolean)) ∈ ga_Gl := ga_t 822 (by decide +kernel) rfl
theorem ml_L_125 : (Cond.methodLink "RecurrenceAnswersLaw" (125 : Nat) ({ cls := "RecurrenceAnswersModel", name := "value", desc := "(I)I" } : MethodName)) ∈ ga_Gl := ga_t 823 (by decide +kernel) rfl
theorem im_X9_value : (Cond.instanceMethod ({ cls := "RecurrenceAnswersModel", name := "value", desc := "(I)I" } : MethodName)) ∈ ga_Gl := ga_t 824 (by decide +kernel) rfl
theorem sl_X9_value : (Cond.selects "RecurrenceAnswersModel" ({ cls := "RecurrenceAnswersModel", name := "value", desc := "(I)I" } : MethodName) ({ cls := "RecurrenceAnswersModel", name := "value", desc := "(I)I" } : MethodName)) ∈ ga_Gl := ga_t 825 (by decide +kernel) rfl
theorem cw_X9_value : (Cond.code ({ cls := "RecurrenceAnswersModel", name := "value", desc := "(I)I" } : MethodName) prog_11_method_26_code (9 : Nat) (Option.some FieldType.int)) ∈ ga_Gl := ga_t 826 (by decide +kernel) rfl
theorem ml_X9_121 : (Cond.methodLink "RecurrenceAnswersModel" (121 : Nat) ({ cls := "RecurrenceAnswersModel", name := "at", desc := "([IIII)I" } : MethodName)) ∈ ga_Gl := ga_t 827 (by decide +kernel) rfl
theorem im_X9_at : (Cond.instanceMethod ({ cls := "RecurrenceAnswersModel", name := "at", desc := "([IIII)I" } : MethodName)) ∈ ga_Gl := ga_t 829 (by decide +kernel) rfl
theorem cw_X9_at : (Cond.code ({ cls := "RecurrenceAnswersModel", name := "at", desc := "([IIII)I" } : MethodName) prog_11_method_5_code (8 : Nat) (Option.some FieldType.int)) ∈ ga_Gl := ga_t 830 (by decide +kernel) rfl
theorem ml_L_129 : (Cond.methodLink "RecurrenceAnswersLaw" (129 : Nat) ({ cls := "RecurrenceAnswersModel", name := "singular", desc := "(I)I" } : MethodName)) ∈ ga_Gl := ga_t 831 (by decide +kernel) rfl
theorem im_X9_singular : (Cond.instanceMethod ({ cls := "RecurrenceAnswersModel", name := "singular", desc := "(I)I" } : MethodName)) ∈ ga_Gl := ga_t 832 (by decide +kernel) rfl
theorem sl_X9_singular : (Cond.selects "RecurrenceAnswersModel" ({ cls := "RecurrenceAnswersModel", name := "singular", desc := "(I)I" } : MethodName) ({ cls := "RecurrenceAnswersModel", name := "singular", desc := "(I)I" } : MethodName)) ∈ ga_Gl := ga_t 833 (by decide +kernel) rfl
theorem cw_X9_singular : (Cond.code ({ cls := "RecurrenceAnswersModel", name := "singular", desc := "(I)I" } : MethodName) prog_11_method_27_code (5 : Nat) (Option.some FieldType.int)) ∈ ga_Gl := ga_t 834 (by decide +kernel) rfl
theorem ml_L_132 : (Cond.methodLink "RecurrenceAnswersLaw" (132 : Nat) ({ cls := "RecurrenceAnswersModel", name := "end", desc := "(I)I" } : MethodName)) ∈ ga_Gl := ga_t 835 (by decide +kernel) rfl
theorem im_X9_end : (Cond.instanceMethod ({ cls := "RecurrenceAnswersModel", name := "end", desc := "(I)I" } : MethodName)) ∈ ga_Gl := ga_t 836 (by decide +kernel) rfl
theorem sl_X9_end : (Cond.selects "RecurrenceAnswersModel" ({ cls := "RecurrenceAnswersModel", name := "end", desc := "(I)I" } : MethodName) ({ cls := "RecurrenceAnswersModel", name := "end", desc := "(I)I" } : MethodName)) ∈ ga_Gl := ga_t 837 (by decide +kernel) rfl
theorem cw_X9_end : (Cond.code ({ cls := "RecurrenceAnswersModel", name := "end", desc := "(I)I" } : MethodName) prog_11_method_28_code (3 : Nat) (Option.some FieldType.int)) ∈ ga_Gl := ga_t 838 (by decide +kernel) rfl
theorem ml_L_135 : (Cond.methodLink "RecurrenceAnswersLaw" (135 : Nat) ({ cls := "RecurrenceAnswersModel", name := "rest", desc := "(I)I" } : MethodName)) ∈ ga_Gl := ga_t 839 (by decide +kernel) rfl
theorem im_X9_rest : (Cond.instanceMethod ({ cls := "RecurrenceAnswersModel", name := "rest", desc := "(I)I" } : MethodName)) ∈ ga_Gl := ga_t 840 (by decide +kernel) rfl
theorem sl_X9_rest : (Cond.selects "RecurrenceAnswersModel" ({ cls := "RecurrenceAnswersModel", name := "rest", desc := "(I)I" } : MethodName) ({ cls := "RecurrenceAnswersModel", name := "rest", desc := "(I)I" } : MethodName)) ∈ ga_Gl := ga_t 841 (by decide +kernel) rfl
theorem cw_X9_rest : (Cond.code ({ cls := "RecurrenceAnswersModel", name := "rest", desc := "(I)I" } : MethodName) prog_11_method_29_code (2 : Nat) (Option.some FieldType.int)) ∈ ga_Gl := ga_t 842 (by decide +kernel) rfl
theorem ml_L_138 : (Cond.methodLink "RecurrenceAnswersLaw" (138 : Nat) ({ cls := "RecurrenceAnswersModel", name := "put", desc := "(II)Z" } : MethodName)) ∈ ga_Gl := ga_t 843 (by decide +kernel) rfl
theorem im_X9_put : (Cond.instanceMethod ({ cls := "RecurrenceAnswersModel", name := "put", desc := "(II)Z" } : MethodName)) ∈ ga_Gl := ga_t 844 (by decide +kernel) rfl
theorem sl_X9_put : (Cond.selects "RecurrenceAnswersModel" ({ cls := "RecurrenceAnswersModel", name := "put", desc := "(II)Z" } : MethodName) ({ cls := "RecurrenceAnswersModel", name := "put", desc := "(II)Z" } : MethodName)) ∈ ga_Gl := ga_t 845 (by decide +kernel) rfl
theorem cw_X9_put : (Cond.code ({ cls := "RecurrenceAnswersModel", name := "put", desc := "(II)Z" } : MethodName) prog_11_method_30_code (5 : Nat) (Option.some FieldType.boolean)) ∈ ga_Gl := ga_t 846 (by decide +kernel) rfl
theorem ml_L_142 : (Cond.methodLink "RecurrenceAnswersLaw" (142 : Nat) ({ cls := "RecurrenceAnswersModel", name := "clear", desc := "()V" } : MethodName)) ∈ ga_Gl := ga_t 847 (by decide +kernel) rfl
theorem im_X9_clear : (Cond.instanceMethod ({ cls := "RecurrenceAnswersModel", name := "clear", desc := "()V" } : MethodName)) ∈ ga_Gl := ga_t 848 (by decide +kernel) rfl
theorem sl_X9_clear : (Cond.selects "RecurrenceAnswersModel" ({ cls := "RecurrenceAnswersModel", name := "clear", desc := "()V" } : MethodName) ({ cls := "RecurrenceAnswersModel", name := "clear", desc := "()V" } : MethodName)) ∈ ga_Gl := ga_t 849 (by decide +kernel) rfl
theorem cw_X9_clear : (Cond.code ({ cls := "RecurrenceAnswersModel", name := "clear", desc := "()V" } : MethodName) prog_11_method_31_code (2 : Nat) (Option.none : Option FieldType)) ∈ ga_Gl := ga_t 850 (by decide +kernel) rfl
theorem kl_L_76 : (Cond.constantLong "RecurrenceAnswersLaw" (76 : Nat) (4294967295 : Int64)) ∈ ga_Gl := ga_t 851 (by decide +kernel) rfl
theorem ac_long : (Cond.arrayClass FieldType.long) ∈ ga_Gl := ga_t 852 (by decide +kernel) rfl
theorem sl_X2_addFactor : Cond.selects "RecurrenceAnswers$LinearSystem" ⟨"RecurrenceAnswers$LinearSystem", "addFactor", "([III)V"⟩ ⟨"RecurrenceAnswers$LinearSystem", "addFactor", "([III)V"⟩ ∈ ga_Gl := ga_p 0 (by decide +kernel) rfl
theorem sl_X2_freeLine : Cond.selects "RecurrenceAnswers$LinearSystem" ⟨"RecurrenceAnswers$LinearSystem", "freeLine", "(I)I"⟩ ⟨"RecurrenceAnswers$LinearSystem", "freeLine", "(I)I"⟩ ∈ ga_Gl := ga_p 1 (by decide +kernel) rfl
theorem sl_X2_scaleLine : Cond.selects "RecurrenceAnswers$LinearSystem" ⟨"RecurrenceAnswers$LinearSystem", "scaleLine", "(II)V"⟩ ⟨"RecurrenceAnswers$LinearSystem", "scaleLine", "(II)V"⟩ ∈ ga_Gl := ga_p 2 (by decide +kernel) rfl
theorem sl_X2_clearColumn : Cond.selects "RecurrenceAnswers$LinearSystem" ⟨"RecurrenceAnswers$LinearSystem", "clearColumn", "(II)V"⟩ ⟨"RecurrenceAnswers$LinearSystem", "clearColumn", "(II)V"⟩ ∈ ga_Gl := ga_p 3 (by decide +kernel) rfl
theorem sl_X0_findBases : Cond.selects "RecurrenceAnswers$Answers" ⟨"RecurrenceAnswers$Answers", "findBases", "(LRecurrenceAnswers$Equation;)V"⟩ ⟨"RecurrenceAnswers$Answers", "findBases", "(LRecurrenceAnswers$Equation;)V"⟩ ∈ ga_Gl := ga_p 4 (by decide +kernel) rfl
theorem sl_X0_collectTopNumbers : Cond.selects "RecurrenceAnswers$Answers" ⟨"RecurrenceAnswers$Answers", "collectTopNumbers", "(LRecurrenceAnswers$Equation;)V"⟩ ⟨"RecurrenceAnswers$Answers", "collectTopNumbers", "(LRecurrenceAnswers$Equation;)V"⟩ ∈ ga_Gl := ga_p 5 (by decide +kernel) rfl
theorem sl_X5_keepSimpleRoots : Cond.selects "RecurrenceAnswers$Roots" ⟨"RecurrenceAnswers$Roots", "keepSimpleRoots", "()V"⟩ ⟨"RecurrenceAnswers$Roots", "keepSimpleRoots", "()V"⟩ ∈ ga_Gl := ga_p 6 (by decide +kernel) rfl
theorem sl_X5_raiseLinear : Cond.selects "RecurrenceAnswers$Roots" ⟨"RecurrenceAnswers$Roots", "raiseLinear", "(II[I)V"⟩ ⟨"RecurrenceAnswers$Roots", "raiseLinear", "(II[I)V"⟩ ∈ ga_Gl := ga_p 7 (by decide +kernel) rfl
theorem sl_X5_squarePower : Cond.selects "RecurrenceAnswers$Roots" ⟨"RecurrenceAnswers$Roots", "squarePower", "([I)V"⟩ ⟨"RecurrenceAnswers$Roots", "squarePower", "([I)V"⟩ ∈ ga_Gl := ga_p 8 (by decide +kernel) rfl
theorem sl_X5_splitOffRoot : Cond.selects "RecurrenceAnswers$Roots" ⟨"RecurrenceAnswers$Roots", "splitOffRoot", "()I"⟩ ⟨"RecurrenceAnswers$Roots", "splitOffRoot", "()I"⟩ ∈ ga_Gl := ga_p 9 (by decide +kernel) rfl
theorem sl_X5_insert : Cond.selects "RecurrenceAnswers$Roots" ⟨"RecurrenceAnswers$Roots", "insert", "(I)V"⟩ ⟨"RecurrenceAnswers$Roots", "insert", "(I)V"⟩ ∈ ga_Gl := ga_p 10 (by decide +kernel) rfl
theorem sl_X5_divideOut : Cond.selects "RecurrenceAnswers$Roots" ⟨"RecurrenceAnswers$Roots", "divideOut", "(I)V"⟩ ⟨"RecurrenceAnswers$Roots", "divideOut", "(I)V"⟩ ∈ ga_Gl := ga_p 11 (by decide +kernel) rfl
theorem sl_X8_forgetConclusions : Cond.selects "RecurrenceAnswers" ⟨"RecurrenceAnswers", "forgetConclusions", "()V"⟩ ⟨"RecurrenceAnswers", "forgetConclusions", "()V"⟩ ∈ ga_Gl := ga_p 12 (by decide +kernel) rfl
theorem sl_java_lang_Throwable_fillInStackTrace : Cond.selects "java/lang/Throwable" ⟨"java/lang/Throwable", "fillInStackTrace", "(I)Ljava/lang/Throwable;"⟩ ⟨"java/lang/Throwable", "fillInStackTrace", "(I)Ljava/lang/Throwable;"⟩ ∈ ga_Gl := ga_p 13 (by decide +kernel) rfl
theorem sl_X8_change : Cond.selects "RecurrenceAnswers" ⟨"RecurrenceAnswers", "change", "([III)Z"⟩ ⟨"RecurrenceAnswers", "change", "([III)Z"⟩ ∈ ga_Gl := ga_p 14 (by decide +kernel) rfl
theorem sl_X8_requireAnswers : Cond.selects "RecurrenceAnswers" ⟨"RecurrenceAnswers", "requireAnswers", "()V"⟩ ⟨"RecurrenceAnswers", "requireAnswers", "()V"⟩ ∈ ga_Gl := ga_p 15 (by decide +kernel) rfl
theorem sl_X7_demand : Cond.selects "RecurrenceAnswers$Values" ⟨"RecurrenceAnswers$Values", "demand", "(LRecurrenceAnswers$Equation;II)I"⟩ ⟨"RecurrenceAnswers$Values", "demand", "(LRecurrenceAnswers$Equation;II)I"⟩ ∈ ga_Gl := ga_p 16 (by decide +kernel) rfl
theorem sl_X9_greatest : Cond.selects "RecurrenceAnswersModel" ⟨"RecurrenceAnswersModel", "greatest", "()I"⟩ ⟨"RecurrenceAnswersModel", "greatest", "()I"⟩ ∈ ga_Gl := ga_p 17 (by decide +kernel) rfl
theorem sl_X9_fill : Cond.selects "RecurrenceAnswersModel" ⟨"RecurrenceAnswersModel", "fill", "(I)V"⟩ ⟨"RecurrenceAnswersModel", "fill", "(I)V"⟩ ∈ ga_Gl := ga_p 18 (by decide +kernel) rfl
theorem sl_X9_apply : Cond.selects "RecurrenceAnswersModel" ⟨"RecurrenceAnswersModel", "apply", "([II)V"⟩ ⟨"RecurrenceAnswersModel", "apply", "([II)V"⟩ ∈ ga_Gl := ga_p 19 (by decide +kernel) rfl
theorem sl_X9_shift : Cond.selects "RecurrenceAnswersModel" ⟨"RecurrenceAnswersModel", "shift", "([II)V"⟩ ⟨"RecurrenceAnswersModel", "shift", "([II)V"⟩ ∈ ga_Gl := ga_p 20 (by decide +kernel) rfl
theorem sl_X9_clears : Cond.selects "RecurrenceAnswersModel" ⟨"RecurrenceAnswersModel", "clears", "()I"⟩ ⟨"RecurrenceAnswersModel", "clears", "()I"⟩ ∈ ga_Gl := ga_p 21 (by decide +kernel) rfl
theorem sl_X9_answers : Cond.selects "RecurrenceAnswersModel" ⟨"RecurrenceAnswersModel", "answers", "([II)I"⟩ ⟨"RecurrenceAnswersModel", "answers", "([II)I"⟩ ∈ ga_Gl := ga_p 22 (by decide +kernel) rfl
theorem sl_X9_highest : Cond.selects "RecurrenceAnswersModel" ⟨"RecurrenceAnswersModel", "highest", "()I"⟩ ⟨"RecurrenceAnswersModel", "highest", "()I"⟩ ∈ ga_Gl := ga_p 23 (by decide +kernel) rfl
theorem sl_X9_unknown : Cond.selects "RecurrenceAnswersModel" ⟨"RecurrenceAnswersModel", "unknown", "()Z"⟩ ⟨"RecurrenceAnswersModel", "unknown", "()Z"⟩ ∈ ga_Gl := ga_p 24 (by decide +kernel) rfl
theorem sl_X9_at : Cond.selects "RecurrenceAnswersModel" ⟨"RecurrenceAnswersModel", "at", "([IIII)I"⟩ ⟨"RecurrenceAnswersModel", "at", "([IIII)I"⟩ ∈ ga_Gl := ga_p 25 (by decide +kernel) rfl
theorem ga_oi : Cond.instanceMethod Lib.objectInit ∈ ga_Gl ∧ Cond.code Lib.objectInit ⟨#[0xb1]⟩ 1 none ∈ ga_Gl := ⟨im_java_lang_Object__init_, cw_java_lang_Object__init_⟩
theorem ga_cp : Cond.native arraycopyName ∈ ga_Gl ∧ Cond.static arraycopyName ∈ ga_Gl ∧ Cond.initialized "java/lang/System" ∈ ga_Gl := ⟨nm_java_lang_System_arraycopy, sm_java_lang_System_arraycopy, wi_J10⟩
end
section
/-! The judgement and its rules -/
/-- a method: its name, code, locals, answer, table of handlers -/
abbrev ga_M : Type := MethodName × ByteArray × Nat × Option FieldType × List ExceptionTableEntry
def ga_Wd (M : ga_M) : List Cond := Cond.code M.1 M.2.1 M.2.2.1 M.2.2.2.1 :: ga_Gl
def ga_Rm (d nc ns : Nat) : Room := { frames := d, cells := nc, slots := ns, locals := 64 * d }
/-- what the tables say beside the good words -/
def ga_Nst : List (String × Nat × MethodName) := [("RecurrenceAnswers", 29, yX2_init), ("RecurrenceAnswers$Answers", 11, yX5_init), ("RecurrenceAnswers$Answers", 23, yX6_init), ("RecurrenceAnswers", 41, yX7_init), ("RecurrenceAnswers", 46, yX5_init)]
def ga_Tab (E : ga_E) (s : State) : Prop := va_K E.1 vwCl (ga_Tys E) s ∧ (∀ q ∈ ga_Nst, va_Nw (.methodLinkNest q.1 q.2.1 q.2.2 "RecurrenceAnswers") s) ∧ va_AO RX6 s ∧ va_AOA .int s ∧ ga_Str s
theorem ga_Tab.warm {E : ga_E} {s U : State} (hW : s.WarmedH U.vm) (h : ga_Tab E s) : ga_Tab E U := ⟨va_K.moved hW.alike h.1, fun q hq => va_Nw.warmM hW (h.2.1 q hq), va_AO.moved hW.alike h.2.2.1, va_AOA.moved hW.alike h.2.2.2.1, ga_Str.warm hW h.2.2.2.2⟩
theorem ga_Tab.call {E : ga_E} {U : State} {g : JFrame} {mk : MethodId} {a : Array Value} (h : ga_Tab E U) : ga_Tab E (U.calling g mk a) := ⟨va_K.moved (Vm.Alike.refl U.vm) h.1, fun q hq => va_Nw.same rfl rfl (h.2.1 q hq), va_AO.moved (Vm.Alike.refl U.vm) h.2.2.1, va_AOA.moved (Vm.Alike.refl U.vm) h.2.2.2.1, ga_Str.same rfl h.2.2.2.2⟩
/-- a method's start and its end -/
def ga_Pre (E : ga_E) (h : ga_H) (U : State) : Prop := ga_N0 E ≤ U.heap.size ∧ ga_Tab E U ∧ ga_Stc E U U.heap ∧ ga_C E h U.heap
def ga_Q (E : ga_E) (Post : Option Value → ga_H → Prop) : Array Value → State → Outcome → State → Prop := fun _ st o t => (∃ r h', o = .returned r ∧ Post r h' ∧ ga_C E h' t.heap) ∧ va_F (ga_A E) st t
theorem ga_Pre_blind {E : ga_E} {h : ga_H} {As : List Value} : FrameBlind (va_Pc As (ga_Pre E h)) := fun a U g mk q => by
  obtain ⟨q0, q1, q2, q3, q4⟩ := q
  exact ⟨q0, q1, q2.call, q3.moved (Vm.Alike.refl U.vm), q4⟩
/-- THE CONTRACT of a method that returns -/
def ga_Ok (l : Launch) (E : ga_E) (d : Nat) (M : ga_M) (As : List Value) (h : ga_H) (nc ns : Nat) (Post : Option Value → ga_H → Prop) : Prop := Met l M.1 (ga_Wd M) (ga_Rm d nc ns) (va_Pc As (ga_Pre E h)) (ga_Q E Post) nc ns (ga_A E)
/-- what holds in a frame of M from its entry on -/
def ga_Cx (E : ga_E) (M : ga_M) (p : Program) (s : State) (m : MethodId) (args : Array Value) (meth : Method) (c : Code) : Prop :=
  p.tables.exec = Jvm.exec ∧ c.code = M.2.1 ∧ c.maxLocals = M.2.2.1 ∧ meth.sig.returnType = M.2.2.2.1 ∧ meth.locks = false ∧ meth.name = M.1.name ∧ s.vm.findClass M.1.cls = some m.cls ∧ (∀ w ∈ ga_Gl, w.before args s = true) ∧ ga_N0 E ≤ s.heap.size ∧ ga_Tab E s ∧ c.exceptionTable.toList = M.2.2.2.2 ∧ ga_Stc E s s.heap
/-- THE JUDGEMENT: from here the machine comes to an end as Z wants it -/
def ga_G (l : Launch) (E : ga_E) (M : ga_M) (R : Room) (Z : List Frame → Array Value → State → State → Prop) (pc : Nat) (lv : List (Option Value)) (st : List Value) (h : ga_H) (cells slots : Nat) : Prop :=
  ∀ (p : Program) (e : Env) (s : State) (m : MethodId) (args : Array Value) (below : List Frame) (meth : Method) (c : Code) (H : Heap) (locs : List Loc) (ls : Array Slot), ga_Cx E M p s m args meth c → ga_C E h H → va_S (ga_A E) s.heap H locs → ga_L ls M.2.2.1 lv →
    W p l e R s m args below meth c H locs cells slots (Z below args s) (F0 m pc ls st)
def ga_Z (E : ga_E) (Post : Option Value → ga_H → Prop) (nc ns : Nat) : List Frame → Array Value → State → State → Prop := fun below args s => MQ below (ga_Q E Post) args s nc ns (ga_A E)
/-- a contract out of a walk -/
theorem ga_Ok.of {l : Launch} {E : ga_E} {d : Nat} {M : ga_M} {As : List Value} {h : ga_H} {nc ns : Nat} {Post : Option Value → ga_H → Prop} (k : Nat) (lv : List (Option Value)) (hy : plainName M.1.cls = true) (hx : M.2.2.2.2 = []) (ha : (lg_sl As).length ≤ M.2.2.1) (hlv : ga_args As ++ List.replicate k none = lv)
    (g : ga_G l E M (ga_Rm d nc ns) (ga_Z E Post nc ns) 0 lv [] h 0 0) : ga_Ok l E d M As h nc ns Post := by
  refine Met.ofW (cc := M.2.1) (maxL := M.2.2.1) (ret := M.2.2.2.1) hy rfl ?_
  intro p e s m args below meth c s₁ B hml hv
  obtain ⟨rfl, hv⟩ := hv
  have hts := atoms_spec (ws := ga_Wd M) B.pre
  rw [lg_entry_eq]
  subst hlv
  refine g p e s m _ below meth c s.heap [] _ ⟨B.exec, B.bytes, hml, B.returns, B.notSynchronized, (name_of_methodNamed B.named B.method).1, findClass_of_methodNamed B.named, fun w hw => hts w (List.mem_cons_of_mem _ hw), hv.1, hv.2.1, ?_, hv.2.2.1⟩ hv.2.2.2 va_S.rf (ga_L.entry As ha)
  have he := BodyLoose.noHandlers B (hts _ List.mem_cons_self)
  rw [hx]
  simpa using he

section GR
variable {l : Launch} {E : ga_E} {M : ga_M} {R : Room} {Z : List Frame → Array Value → State → State → Prop} {pc : Nat} {lv lv' : List (Option Value)} {st : List Value} {h h' : ga_H} {cells slots : Nat}
/-- another name for the stack's top *)-/
theorem gr_top {x y : Value} (e : x = y) (k : ga_G l E M R Z pc lv (y :: st) h cells slots) : ga_G l E M R Z pc lv (x :: st) h cells slots := e ▸ k
theorem gr_lv (e : lv = lv') (k : ga_G l E M R Z pc lv' st h cells slots) : ga_G l E M R Z pc lv st h cells slots := e ▸ k
theorem gr_h (e : h = h') (k : ga_G l E M R Z pc lv st h' cells slots) : ga_G l E M R Z pc lv st h cells slots := e ▸ k
theorem gr_weak (hw : ∀ (i : Nat) (v : Value), lv'[i]? = some (some v) → lv[i]? = some (some v)) (k : ga_G l E M R Z pc lv' st h cells slots) : ga_G l E M R Z pc lv st h cells slots := fun p e s m args below meth c H locs ls X hc hS hl => k p e s m args below meth c H locs ls X hc hS (hl.weaken hw)
theorem gr_drop (hw : ∀ a c, h' a = some c → h a = some c) (k : ga_G l E M R Z pc lv st h' cells slots) : ga_G l E M R Z pc lv st h cells slots := fun p e s m args below meth c H locs ls X hc hS hl => k p e s m args below meth c H locs ls X (hc.sub hw) hS hl
theorem gr_wide {k n : Nat} (h1 : cells ≤ k) (h2 : slots ≤ n) (kk : ga_G l E M R Z pc lv st h k n) : ga_G l E M R Z pc lv st h cells slots := fun p e s m args below meth c H locs ls X hc hS hl => W.widen h1 h2 (kk p e s m args below meth c H locs ls X hc hS hl)

theorem gr_iconst {n : Int} {v : Int32} (hd : decode M.2.1 pc = .ok (.iconst n, 1)) (hv : Int32.ofInt n = v) (k : ga_G l E M R Z (pc + 1) lv (.int v :: st) h cells slots) : ga_G l E M R Z pc lv st h cells slots := by
  intro p e s m args below meth c H locs ls X hc hS hl
  exact lv_iconst X.1 X.2.1 hd hv (k p e s m args below meth c H locs ls X hc hS hl)
theorem gr_bipush {n : Int} {v : Int32} (hd : decode M.2.1 pc = .ok (.bipush n, 2)) (hv : (Int8.ofInt n).toInt32 = v) (k : ga_G l E M R Z (pc + 2) lv (.int v :: st) h cells slots) : ga_G l E M R Z pc lv st h cells slots := by
  intro p e s m args below meth c H locs ls X hc hS hl
  exact lv_bipush X.1 X.2.1 hd hv (k p e s m args below meth c H locs ls X hc hS hl)
theorem gr_sipush {n : Int} {v : Int32} (hd : decode M.2.1 pc = .ok (.sipush n, 3)) (hv : (Int16.ofInt n).toInt32 = v) (k : ga_G l E M R Z (pc + 3) lv (.int v :: st) h cells slots) : ga_G l E M R Z pc lv st h cells slots := by
  intro p e s m args below meth c H locs ls X hc hS hl
  exact lv_sipush X.1 X.2.1 hd hv (k p e s m args below meth c H locs ls X hc hS hl)
theorem gr_lconst {n : Fin 2} {v : Int64} (hd : decode M.2.1 pc = .ok (.lconst n, 1)) (hv : Int64.ofNat (n : Nat) = v) (k : ga_G l E M R Z (pc + 1) lv (.long v :: st) h cells slots) : ga_G l E M R Z pc lv st h cells slots := by
  intro p e s m args below meth c H locs ls X hc hS hl
  exact lv_lconst X.1 X.2.1 hd hv (k p e s m args below meth c H locs ls X hc hS hl)
theorem gr_ldc2 {index : Nat} {v : Int64} (hd : decode M.2.1 pc = .ok (.ldc2_w index, 3)) (hw : Cond.constantLong M.1.cls index v ∈ ga_Gl) (k : ga_G l E M R Z (pc + 3) lv (.long v :: st) h cells slots) : ga_G l E M R Z pc lv st h cells slots := by
  intro p e s m args below meth c H locs ls X hc hS hl
  exact lv_ldc2 X.1 X.2.1 X.2.2.2.2.2.2.1 (X.2.2.2.2.2.2.2.1 _ hw) hd (k p e s m args below meth c H locs ls X hc hS hl)
theorem gr_iload_n {k0 : Fin 4} {x : Int32} (hd : decode M.2.1 pc = .ok (.iload_n k0, 1)) (hx : lv[(k0 : Nat)]? = some (some (.int x))) (k : ga_G l E M R Z (pc + 1) lv (.int x :: st) h cells slots) : ga_G l E M R Z pc lv st h cells slots := by
  intro p e s m args below meth c H locs ls X hc hS hl
  exact lv_iload_n X.1 X.2.1 hd rfl (hl.2.2 _ _ hx) (k p e s m args below meth c H locs ls X hc hS hl)
theorem gr_iload {i : Nat} {x : Int32} (hd : decode M.2.1 pc = .ok (.iload i, 2)) (hx : lv[i]? = some (some (.int x))) (k : ga_G l E M R Z (pc + 2) lv (.int x :: st) h cells slots) : ga_G l E M R Z pc lv st h cells slots := by
  intro p e s m args below meth c H locs ls X hc hS hl
  exact lv_iload X.1 X.2.1 hd (hl.2.2 _ _ hx) (k p e s m args below meth c H locs ls X hc hS hl)
theorem gr_lload_n {k0 : Fin 4} {x : Int64} (hd : decode M.2.1 pc = .ok (.lload_n k0, 1)) (hx : lv[(k0 : Nat)]? = some (some (.long x))) (k : ga_G l E M R Z (pc + 1) lv (.long x :: st) h cells slots) : ga_G l E M R Z pc lv st h cells slots := by
  intro p e s m args below meth c H locs ls X hc hS hl
  exact lv_lload_n X.1 X.2.1 hd rfl (hl.2.2 _ _ hx) (k p e s m args below meth c H locs ls X hc hS hl)
theorem gr_lload {i : Nat} {x : Int64} (hd : decode M.2.1 pc = .ok (.lload i, 2)) (hx : lv[i]? = some (some (.long x))) (k : ga_G l E M R Z (pc + 2) lv (.long x :: st) h cells slots) : ga_G l E M R Z pc lv st h cells slots := by
  intro p e s m args below meth c H locs ls X hc hS hl
  exact lv_lload X.1 X.2.1 hd (hl.2.2 _ _ hx) (k p e s m args below meth c H locs ls X hc hS hl)
theorem gr_aload_n {k0 : Fin 4} {x : Nat} (hd : decode M.2.1 pc = .ok (.aload_n k0, 1)) (hx : lv[(k0 : Nat)]? = some (some (.ref x))) (k : ga_G l E M R Z (pc + 1) lv (.ref x :: st) h cells slots) : ga_G l E M R Z pc lv st h cells slots := by
  intro p e s m args below meth c H locs ls X hc hS hl
  exact lv_aload_n X.1 X.2.1 hd rfl (hl.2.2 _ _ hx) (k p e s m args below meth c H locs ls X hc hS hl)
theorem gr_aload {i : Nat} {x : Nat} (hd : decode M.2.1 pc = .ok (.aload i, 2)) (hx : lv[i]? = some (some (.ref x))) (k : ga_G l E M R Z (pc + 2) lv (.ref x :: st) h cells slots) : ga_G l E M R Z pc lv st h cells slots := by
  intro p e s m args below meth c H locs ls X hc hS hl
  exact lv_aload X.1 X.2.1 hd (hl.2.2 _ _ hx) (k p e s m args below meth c H locs ls X hc hS hl)
theorem gr_iadd {x y : Int32} (hd : decode M.2.1 pc = .ok (.iadd, 1)) (k : ga_G l E M R Z (pc + 1) lv (.int (x + y) :: st) h cells slots) : ga_G l E M R Z pc lv (.int y :: .int x :: st) h cells slots := by
  intro p e s m args below meth c H locs ls X hc hS hl
  exact lv_iadd X.1 X.2.1 hd (k p e s m args below meth c H locs ls X hc hS hl)
theorem gr_isub {x y : Int32} (hd : decode M.2.1 pc = .ok (.isub, 1)) (k : ga_G l E M R Z (pc + 1) lv (.int (x - y) :: st) h cells slots) : ga_G l E M R Z pc lv (.int y :: .int x :: st) h cells slots := by
  intro p e s m args below meth c H locs ls X hc hS hl
  exact lv_isub X.1 X.2.1 hd (k p e s m args below meth c H locs ls X hc hS hl)
theorem gr_imul {x y : Int32} (hd : decode M.2.1 pc = .ok (.imul, 1)) (k : ga_G l E M R Z (pc + 1) lv (.int (x * y) :: st) h cells slots) : ga_G l E M R Z pc lv (.int y :: .int x :: st) h cells slots := by
  intro p e s m args below meth c H locs ls X hc hS hl
  exact lv_imul X.1 X.2.1 hd (k p e s m args below meth c H locs ls X hc hS hl)
theorem gr_iand {x y : Int32} (hd : decode M.2.1 pc = .ok (.iand, 1)) (k : ga_G l E M R Z (pc + 1) lv (.int (x &&& y) :: st) h cells slots) : ga_G l E M R Z pc lv (.int y :: .int x :: st) h cells slots := by
  intro p e s m args below meth c H locs ls X hc hS hl
  exact lv_iand X.1 X.2.1 hd (k p e s m args below meth c H locs ls X hc hS hl)
theorem gr_ladd {x y : Int64} (hd : decode M.2.1 pc = .ok (.ladd, 1)) (k : ga_G l E M R Z (pc + 1) lv (.long (x + y) :: st) h cells slots) : ga_G l E M R Z pc lv (.long y :: .long x :: st) h cells slots := by
  intro p e s m args below meth c H locs ls X hc hS hl
  exact lv_ladd X.1 X.2.1 hd (k p e s m args below meth c H locs ls X hc hS hl)
theorem gr_lmul {x y : Int64} (hd : decode M.2.1 pc = .ok (.lmul, 1)) (k : ga_G l E M R Z (pc + 1) lv (.long (x * y) :: st) h cells slots) : ga_G l E M R Z pc lv (.long y :: .long x :: st) h cells slots := by
  intro p e s m args below meth c H locs ls X hc hS hl
  exact lv_lmul X.1 X.2.1 hd (k p e s m args below meth c H locs ls X hc hS hl)
theorem gr_land {x y : Int64} (hd : decode M.2.1 pc = .ok (.land, 1)) (k : ga_G l E M R Z (pc + 1) lv (.long (x &&& y) :: st) h cells slots) : ga_G l E M R Z pc lv (.long y :: .long x :: st) h cells slots := by
  intro p e s m args below meth c H locs ls X hc hS hl
  exact lv_land X.1 X.2.1 hd (k p e s m args below meth c H locs ls X hc hS hl)
theorem gr_lor {x y : Int64} (hd : decode M.2.1 pc = .ok (.lor, 1)) (k : ga_G l E M R Z (pc + 1) lv (.long (x ||| y) :: st) h cells slots) : ga_G l E M R Z pc lv (.long y :: .long x :: st) h cells slots := by
  intro p e s m args below meth c H locs ls X hc hS hl
  exact lv_lor X.1 X.2.1 hd (k p e s m args below meth c H locs ls X hc hS hl)
theorem gr_lxor {x y : Int64} (hd : decode M.2.1 pc = .ok (.lxor, 1)) (k : ga_G l E M R Z (pc + 1) lv (.long (x ^^^ y) :: st) h cells slots) : ga_G l E M R Z pc lv (.long y :: .long x :: st) h cells slots := by
  intro p e s m args below meth c H locs ls X hc hS hl
  exact lv_lxor X.1 X.2.1 hd (k p e s m args below meth c H locs ls X hc hS hl)
theorem gr_idiv {x y : Int32} (hd : decode M.2.1 pc = .ok (.idiv, 1)) (hne : ¬ y = 0) (k : ga_G l E M R Z (pc + 1) lv (.int (x / y) :: st) h cells slots) : ga_G l E M R Z pc lv (.int y :: .int x :: st) h cells slots := by
  intro p e s m args below meth c H locs ls X hc hS hl
  exact lv_idiv X.1 X.2.1 hd hne (k p e s m args below meth c H locs ls X hc hS hl)
theorem gr_irem {x y : Int32} (hd : decode M.2.1 pc = .ok (.irem, 1)) (hne : ¬ y = 0) (k : ga_G l E M R Z (pc + 1) lv (.int (x - x / y * y) :: st) h cells slots) : ga_G l E M R Z pc lv (.int y :: .int x :: st) h cells slots := by
  intro p e s m args below meth c H locs ls X hc hS hl
  exact lv_irem X.1 X.2.1 hd hne (k p e s m args below meth c H locs ls X hc hS hl)
theorem gr_lrem {x y : Int64} (hd : decode M.2.1 pc = .ok (.lrem, 1)) (hne : ¬ y = 0) (k : ga_G l E M R Z (pc + 1) lv (.long (x - x / y * y) :: st) h cells slots) : ga_G l E M R Z pc lv (.long y :: .long x :: st) h cells slots := by
  intro p e s m args below meth c H locs ls X hc hS hl
  exact lv_lrem X.1 X.2.1 hd hne (k p e s m args below meth c H locs ls X hc hS hl)
theorem gr_ishr {x y : Int32} (hd : decode M.2.1 pc = .ok (.ishr, 1)) (k : ga_G l E M R Z (pc + 1) lv (.int (x >>> (y &&& 31)) :: st) h cells slots) : ga_G l E M R Z pc lv (.int y :: .int x :: st) h cells slots := by
  intro p e s m args below meth c H locs ls X hc hS hl
  exact lv_ishr X.1 X.2.1 hd (k p e s m args below meth c H locs ls X hc hS hl)
theorem gr_lshl {x : Int64} {y : Int32} (hd : decode M.2.1 pc = .ok (.lshl, 1)) (k : ga_G l E M R Z (pc + 1) lv (.long (x <<< (y.toInt64 &&& 63)) :: st) h cells slots) : ga_G l E M R Z pc lv (.int y :: .long x :: st) h cells slots := by
  intro p e s m args below meth c H locs ls X hc hS hl
  exact lv_lshl X.1 X.2.1 hd rfl (k p e s m args below meth c H locs ls X hc hS hl)
theorem gr_i2l {x : Int32} {v : Int64} (hd : decode M.2.1 pc = .ok (.i2l, 1)) (hv : x.toInt64 = v) (k : ga_G l E M R Z (pc + 1) lv (.long v :: st) h cells slots) : ga_G l E M R Z pc lv (.int x :: st) h cells slots := by
  intro p e s m args below meth c H locs ls X hc hS hl
  exact lv_i2l X.1 X.2.1 hd hv (k p e s m args below meth c H locs ls X hc hS hl)
theorem gr_l2i {x : Int64} {v : Int32} (hd : decode M.2.1 pc = .ok (.l2i, 1)) (hv : x.toInt32 = v) (k : ga_G l E M R Z (pc + 1) lv (.int v :: st) h cells slots) : ga_G l E M R Z pc lv (.long x :: st) h cells slots := by
  intro p e s m args below meth c H locs ls X hc hS hl
  exact lv_l2i X.1 X.2.1 hd hv (k p e s m args below meth c H locs ls X hc hS hl)
theorem gr_lcmp {x y : Int64} (hd : decode M.2.1 pc = .ok (.lcmp, 1)) (k : ga_G l E M R Z (pc + 1) lv (.int (lg_cmp x y) :: st) h cells slots) : ga_G l E M R Z pc lv (.long y :: .long x :: st) h cells slots := by
  intro p e s m args below meth c H locs ls X hc hS hl
  exact W.lcmp X.1 X.2.1 hd (k p e s m args below meth c H locs ls X hc hS hl)
theorem gr_dup {v : Value} (hd : decode M.2.1 pc = .ok (.dup, 1)) (hv : v.category = 1) (k : ga_G l E M R Z (pc + 1) lv (v :: v :: st) h cells slots) : ga_G l E M R Z pc lv (v :: st) h cells slots := by
  intro p e s m args below meth c H locs ls X hc hS hl
  exact lv_dup X.1 X.2.1 hd hv (k p e s m args below meth c H locs ls X hc hS hl)
theorem gr_pop {v : Value} (hd : decode M.2.1 pc = .ok (.pop, 1)) (hv : v.category = 1) (k : ga_G l E M R Z (pc + 1) lv st h cells slots) : ga_G l E M R Z pc lv (v :: st) h cells slots := by
  intro p e s m args below meth c H locs ls X hc hS hl
  exact lv_pop X.1 X.2.1 hd hv (k p e s m args below meth c H locs ls X hc hS hl)
theorem gr_iaddN {a b : Nat} (hd : decode M.2.1 pc = .ok (.iadd, 1)) (k : ga_G l E M R Z (pc + 1) lv (.int (nI (a + b)) :: st) h cells slots) : ga_G l E M R Z pc lv (.int (nI b) :: .int (nI a) :: st) h cells slots := gr_iadd hd (gr_top (congrArg Value.int (nI_add a b)) k)
theorem gr_imulN {a b : Nat} (hd : decode M.2.1 pc = .ok (.imul, 1)) (k : ga_G l E M R Z (pc + 1) lv (.int (nI (a * b)) :: st) h cells slots) : ga_G l E M R Z pc lv (.int (nI b) :: .int (nI a) :: st) h cells slots := gr_imul hd (gr_top (congrArg Value.int (pk_mul a b)) k)
theorem gr_isubN {a b : Nat} (hd : decode M.2.1 pc = .ok (.isub, 1)) (hle : b ≤ a) (k : ga_G l E M R Z (pc + 1) lv (.int (nI (a - b)) :: st) h cells slots) : ga_G l E M R Z pc lv (.int (nI b) :: .int (nI a) :: st) h cells slots := gr_isub hd (gr_top (congrArg Value.int (pk_sub hle)) k)
theorem gr_iremN {a b : Nat} (hd : decode M.2.1 pc = .ok (.irem, 1)) (ha : a < 2 ^ 31) (h0 : 0 < b) (hb : b < 2 ^ 31) (k : ga_G l E M R Z (pc + 1) lv (.int (nI (a % b)) :: st) h cells slots) : ga_G l E M R Z pc lv (.int (nI b) :: .int (nI a) :: st) h cells slots := gr_irem hd (nI_ne0 h0 hb) (gr_top (congrArg Value.int (pk_rem ha h0 hb)) k)
theorem gr_idivN {a b : Nat} (hd : decode M.2.1 pc = .ok (.idiv, 1)) (ha : a < 2 ^ 31) (h0 : 0 < b) (hb : b < 2 ^ 31) (k : ga_G l E M R Z (pc + 1) lv (.int (nI (a / b)) :: st) h cells slots) : ga_G l E M R Z pc lv (.int (nI b) :: .int (nI a) :: st) h cells slots := gr_idiv hd (nI_ne0 h0 hb) (gr_top (congrArg Value.int (pk_div ha h0 hb)) k)
theorem gr_laddN {a b : Nat} (hd : decode M.2.1 pc = .ok (.ladd, 1)) (k : ga_G l E M R Z (pc + 1) lv (.long (lN (a + b)) :: st) h cells slots) : ga_G l E M R Z pc lv (.long (lN b) :: .long (lN a) :: st) h cells slots := gr_ladd hd (gr_top (congrArg Value.long (lN_add a b)) k)
theorem gr_lmulN {a b : Nat} (hd : decode M.2.1 pc = .ok (.lmul, 1)) (k : ga_G l E M R Z (pc + 1) lv (.long (lN (a * b)) :: st) h cells slots) : ga_G l E M R Z pc lv (.long (lN b) :: .long (lN a) :: st) h cells slots := gr_lmul hd (gr_top (congrArg Value.long (lN_mul a b)) k)
theorem gr_lremN {a b : Nat} (hd : decode M.2.1 pc = .ok (.lrem, 1)) (ha : a < 2 ^ 63) (h0 : 0 < b) (hb : b < 2 ^ 63) (k : ga_G l E M R Z (pc + 1) lv (.long (lN (a % b)) :: st) h cells slots) : ga_G l E M R Z pc lv (.long (lN b) :: .long (lN a) :: st) h cells slots := gr_lrem hd (fun e => by
  have e2 : lN b = lN 0 := e
  rw [pk_lEQ hb (by decide)] at e2
  omega) (gr_top (congrArg Value.long (pk_lRem ha h0 hb)) k)
theorem gr_i2lN {a : Nat} (hd : decode M.2.1 pc = .ok (.i2l, 1)) (ha : a < 2 ^ 31) (k : ga_G l E M R Z (pc + 1) lv (.long (lN a) :: st) h cells slots) : ga_G l E M R Z pc lv (.int (nI a) :: st) h cells slots := gr_i2l hd (nI_l ha) k
theorem gr_l2iN {a : Nat} (hd : decode M.2.1 pc = .ok (.l2i, 1)) (k : ga_G l E M R Z (pc + 1) lv (.int (nI a) :: st) h cells slots) : ga_G l E M R Z pc lv (.long (lN a) :: st) h cells slots := gr_l2i hd (lN_i a) k
theorem gr_istore_n {k0 : Fin 4} {x : Int32} (hd : decode M.2.1 pc = .ok (.istore_n k0, 1)) (hi : (k0 : Nat) < M.2.2.1) (hn : ga_nl lv (k0 : Nat) = true) (k : ga_G l E M R Z (pc + 1) (lv.set (k0 : Nat) (some (.int x))) st h cells slots) : ga_G l E M R Z pc lv (.int x :: st) h cells slots := by
  intro p e s m args below meth c H locs ls X hc hS hl
  obtain ⟨ls', e1, hl'⟩ := hl.st1 (v := .int x) hi rfl hn
  intro T hT Xs
  obtain ⟨t, a, b⟩ := k p e s m args below meth c H locs ls' X hc hS hl' T hT Xs
  refine ⟨t, ?_, b⟩
  jvm_step Xs.here [Xs.here.top, X.1, X.2.1, hd, e1]
  first | exact a | exact ⟨rfl, a⟩
theorem gr_istore {k0 : Nat} {x : Int32} (hd : decode M.2.1 pc = .ok (.istore k0, 2)) (hi : k0 < M.2.2.1) (hn : ga_nl lv k0 = true) (k : ga_G l E M R Z (pc + 2) (lv.set k0 (some (.int x))) st h cells slots) : ga_G l E M R Z pc lv (.int x :: st) h cells slots := by
  intro p e s m args below meth c H locs ls X hc hS hl
  obtain ⟨ls', e1, hl'⟩ := hl.st1 (v := .int x) hi rfl hn
  intro T hT Xs
  obtain ⟨t, a, b⟩ := k p e s m args below meth c H locs ls' X hc hS hl' T hT Xs
  refine ⟨t, ?_, b⟩
  jvm_step Xs.here [Xs.here.top, X.1, X.2.1, hd, e1]
  first | exact a | exact ⟨rfl, a⟩
theorem gr_astore_n {k0 : Fin 4} {x : Nat} (hd : decode M.2.1 pc = .ok (.astore_n k0, 1)) (hi : (k0 : Nat) < M.2.2.1) (hn : ga_nl lv (k0 : Nat) = true) (k : ga_G l E M R Z (pc + 1) (lv.set (k0 : Nat) (some (.ref x))) st h cells slots) : ga_G l E M R Z pc lv (.ref x :: st) h cells slots := by
  intro p e s m args below meth c H locs ls X hc hS hl
  obtain ⟨ls', e1, hl'⟩ := hl.st1 (v := .ref x) hi rfl hn
  intro T hT Xs
  obtain ⟨t, a, b⟩ := k p e s m args below meth c H locs ls' X hc hS hl' T hT Xs
  refine ⟨t, ?_, b⟩
  jvm_step Xs.here [Xs.here.top, X.1, X.2.1, hd, e1]
  first | exact a | exact ⟨rfl, a⟩
theorem gr_astore {k0 : Nat} {x : Nat} (hd : decode M.2.1 pc = .ok (.astore k0, 2)) (hi : k0 < M.2.2.1) (hn : ga_nl lv k0 = true) (k : ga_G l E M R Z (pc + 2) (lv.set k0 (some (.ref x))) st h cells slots) : ga_G l E M R Z pc lv (.ref x :: st) h cells slots := by
  intro p e s m args below meth c H locs ls X hc hS hl
  obtain ⟨ls', e1, hl'⟩ := hl.st1 (v := .ref x) hi rfl hn
  intro T hT Xs
  obtain ⟨t, a, b⟩ := k p e s m args below meth c H locs ls' X hc hS hl' T hT Xs
  refine ⟨t, ?_, b⟩
  jvm_step Xs.here [Xs.here.top, X.1, X.2.1, hd, e1]
  first | exact a | exact ⟨rfl, a⟩
theorem gr_lstore_n {k0 : Fin 4} {x : Int64} (hd : decode M.2.1 pc = .ok (.lstore_n k0, 1)) (hi : (k0 : Nat) + 1 < M.2.2.1) (hn : ga_nl lv (k0 : Nat) = true) (k : ga_G l E M R Z (pc + 1) ((lv.set (k0 : Nat) (some (.long x))).set ((k0 : Nat) + 1) none) st h cells slots) : ga_G l E M R Z pc lv (.long x :: st) h cells slots := by
  intro p e s m args below meth c H locs ls X hc hS hl
  obtain ⟨ls', e1, hl'⟩ := hl.st2 (v := .long x) hi rfl hn
  intro T hT Xs
  obtain ⟨t, a, b⟩ := k p e s m args below meth c H locs ls' X hc hS hl' T hT Xs
  refine ⟨t, ?_, b⟩
  jvm_step Xs.here [Xs.here.top, X.1, X.2.1, hd, e1]
  first | exact a | exact ⟨rfl, a⟩
theorem gr_lstore {k0 : Nat} {x : Int64} (hd : decode M.2.1 pc = .ok (.lstore k0, 2)) (hi : k0 + 1 < M.2.2.1) (hn : ga_nl lv k0 = true) (k : ga_G l E M R Z (pc + 2) ((lv.set k0 (some (.long x))).set (k0 + 1) none) st h cells slots) : ga_G l E M R Z pc lv (.long x :: st) h cells slots := by
  intro p e s m args below meth c H locs ls X hc hS hl
  obtain ⟨ls', e1, hl'⟩ := hl.st2 (v := .long x) hi rfl hn
  intro T hT Xs
  obtain ⟨t, a, b⟩ := k p e s m args below meth c H locs ls' X hc hS hl' T hT Xs
  refine ⟨t, ?_, b⟩
  jvm_step Xs.here [Xs.here.top, X.1, X.2.1, hd, e1]
  first | exact a | exact ⟨rfl, a⟩
theorem gr_iinc {i : Nat} {n : Int} {x v : Int32} (hd : decode M.2.1 pc = .ok (.iinc i n, 3)) (hx : lv[i]? = some (some (.int x))) (hv : x + Int32.ofInt n = v) (hi : i < M.2.2.1) (hn : ga_nl lv i = true) (k : ga_G l E M R Z (pc + 3) (lv.set i (some (.int v))) st h cells slots) : ga_G l E M R Z pc lv st h cells slots := by
  intro p e s m args below meth c H locs ls X hc hS hl
  obtain ⟨ls', e1, hl'⟩ := hl.st1 (v := .int v) hi rfl hn
  have h0 := hl.2.2 _ _ hx
  intro T hT Xs
  obtain ⟨t, a, b⟩ := k p e s m args below meth c H locs ls' X hc hS hl' T hT Xs
  refine ⟨t, ?_, b⟩
  subst hv
  jvm_step Xs.here [Xs.here.top, X.1, X.2.1, hd, h0, e1]
  exact a
theorem gr_ifeq {x : Int32} {off : Int} (tgt : Nat) (hd : decode M.2.1 pc = .ok (.ifCond .eq off, 3)) (ht : (pc : Int) + off = (tgt : Int)) (kt : x = 0 → ga_G l E M R Z tgt lv st h cells slots) (kf : ¬ x = 0 → ga_G l E M R Z (pc + 3) lv st h cells slots) : ga_G l E M R Z pc lv (.int x :: st) h cells slots := by
  intro p e s m args below meth c H locs ls X hc hS hl
  exact lv_if_eq X.1 X.2.1 hd ht (fun q => kt q p e s m args below meth c H locs ls X hc hS hl) (fun q => kf q p e s m args below meth c H locs ls X hc hS hl)
theorem gr_icmpeq {x y : Int32} {off : Int} (tgt : Nat) (hd : decode M.2.1 pc = .ok (.if_icmp .eq off, 3)) (ht : (pc : Int) + off = (tgt : Int)) (kt : x = y → ga_G l E M R Z tgt lv st h cells slots) (kf : ¬ x = y → ga_G l E M R Z (pc + 3) lv st h cells slots) : ga_G l E M R Z pc lv (.int y :: .int x :: st) h cells slots := by
  intro p e s m args below meth c H locs ls X hc hS hl
  exact lv_icmp_eq X.1 X.2.1 hd ht (fun q => kt q p e s m args below meth c H locs ls X hc hS hl) (fun q => kf q p e s m args below meth c H locs ls X hc hS hl)
theorem gr_ifne {x : Int32} {off : Int} (tgt : Nat) (hd : decode M.2.1 pc = .ok (.ifCond .ne off, 3)) (ht : (pc : Int) + off = (tgt : Int)) (kt : ¬ x = 0 → ga_G l E M R Z tgt lv st h cells slots) (kf : x = 0 → ga_G l E M R Z (pc + 3) lv st h cells slots) : ga_G l E M R Z pc lv (.int x :: st) h cells slots := by
  intro p e s m args below meth c H locs ls X hc hS hl
  exact lv_if_ne X.1 X.2.1 hd ht (fun q => kt q p e s m args below meth c H locs ls X hc hS hl) (fun q => kf q p e s m args below meth c H locs ls X hc hS hl)
theorem gr_icmpne {x y : Int32} {off : Int} (tgt : Nat) (hd : decode M.2.1 pc = .ok (.if_icmp .ne off, 3)) (ht : (pc : Int) + off = (tgt : Int)) (kt : ¬ x = y → ga_G l E M R Z tgt lv st h cells slots) (kf : x = y → ga_G l E M R Z (pc + 3) lv st h cells slots) : ga_G l E M R Z pc lv (.int y :: .int x :: st) h cells slots := by
  intro p e s m args below meth c H locs ls X hc hS hl
  exact lv_icmp_ne X.1 X.2.1 hd ht (fun q => kt q p e s m args below meth c H locs ls X hc hS hl) (fun q => kf q p e s m args below meth c H locs ls X hc hS hl)
theorem gr_iflt {x : Int32} {off : Int} (tgt : Nat) (hd : decode M.2.1 pc = .ok (.ifCond .lt off, 3)) (ht : (pc : Int) + off = (tgt : Int)) (kt : x < 0 → ga_G l E M R Z tgt lv st h cells slots) (kf : ¬ x < 0 → ga_G l E M R Z (pc + 3) lv st h cells slots) : ga_G l E M R Z pc lv (.int x :: st) h cells slots := by
  intro p e s m args below meth c H locs ls X hc hS hl
  exact lv_if_lt X.1 X.2.1 hd ht (fun q => kt q p e s m args below meth c H locs ls X hc hS hl) (fun q => kf q p e s m args below meth c H locs ls X hc hS hl)
theorem gr_icmplt {x y : Int32} {off : Int} (tgt : Nat) (hd : decode M.2.1 pc = .ok (.if_icmp .lt off, 3)) (ht : (pc : Int) + off = (tgt : Int)) (kt : x < y → ga_G l E M R Z tgt lv st h cells slots) (kf : ¬ x < y → ga_G l E M R Z (pc + 3) lv st h cells slots) : ga_G l E M R Z pc lv (.int y :: .int x :: st) h cells slots := by
  intro p e s m args below meth c H locs ls X hc hS hl
  exact lv_icmp_lt X.1 X.2.1 hd ht (fun q => kt q p e s m args below meth c H locs ls X hc hS hl) (fun q => kf q p e s m args below meth c H locs ls X hc hS hl)
theorem gr_ifge {x : Int32} {off : Int} (tgt : Nat) (hd : decode M.2.1 pc = .ok (.ifCond .ge off, 3)) (ht : (pc : Int) + off = (tgt : Int)) (kt : 0 ≤ x → ga_G l E M R Z tgt lv st h cells slots) (kf : ¬ 0 ≤ x → ga_G l E M R Z (pc + 3) lv st h cells slots) : ga_G l E M R Z pc lv (.int x :: st) h cells slots := by
  intro p e s m args below meth c H locs ls X hc hS hl
  exact lv_if_ge X.1 X.2.1 hd ht (fun q => kt q p e s m args below meth c H locs ls X hc hS hl) (fun q => kf q p e s m args below meth c H locs ls X hc hS hl)
theorem gr_icmpge {x y : Int32} {off : Int} (tgt : Nat) (hd : decode M.2.1 pc = .ok (.if_icmp .ge off, 3)) (ht : (pc : Int) + off = (tgt : Int)) (kt : y ≤ x → ga_G l E M R Z tgt lv st h cells slots) (kf : ¬ y ≤ x → ga_G l E M R Z (pc + 3) lv st h cells slots) : ga_G l E M R Z pc lv (.int y :: .int x :: st) h cells slots := by
  intro p e s m args below meth c H locs ls X hc hS hl
  exact lv_icmp_ge X.1 X.2.1 hd ht (fun q => kt q p e s m args below meth c H locs ls X hc hS hl) (fun q => kf q p e s m args below meth c H locs ls X hc hS hl)
theorem gr_ifgt {x : Int32} {off : Int} (tgt : Nat) (hd : decode M.2.1 pc = .ok (.ifCond .gt off, 3)) (ht : (pc : Int) + off = (tgt : Int)) (kt : 0 < x → ga_G l E M R Z tgt lv st h cells slots) (kf : ¬ 0 < x → ga_G l E M R Z (pc + 3) lv st h cells slots) : ga_G l E M R Z pc lv (.int x :: st) h cells slots := by
  intro p e s m args below meth c H locs ls X hc hS hl
  exact lv_if_gt X.1 X.2.1 hd ht (fun q => kt q p e s m args below meth c H locs ls X hc hS hl) (fun q => kf q p e s m args below meth c H locs ls X hc hS hl)
theorem gr_icmpgt {x y : Int32} {off : Int} (tgt : Nat) (hd : decode M.2.1 pc = .ok (.if_icmp .gt off, 3)) (ht : (pc : Int) + off = (tgt : Int)) (kt : y < x → ga_G l E M R Z tgt lv st h cells slots) (kf : ¬ y < x → ga_G l E M R Z (pc + 3) lv st h cells slots) : ga_G l E M R Z pc lv (.int y :: .int x :: st) h cells slots := by
  intro p e s m args below meth c H locs ls X hc hS hl
  exact lv_icmp_gt X.1 X.2.1 hd ht (fun q => kt q p e s m args below meth c H locs ls X hc hS hl) (fun q => kf q p e s m args below meth c H locs ls X hc hS hl)
theorem gr_ifle {x : Int32} {off : Int} (tgt : Nat) (hd : decode M.2.1 pc = .ok (.ifCond .le off, 3)) (ht : (pc : Int) + off = (tgt : Int)) (kt : x ≤ 0 → ga_G l E M R Z tgt lv st h cells slots) (kf : ¬ x ≤ 0 → ga_G l E M R Z (pc + 3) lv st h cells slots) : ga_G l E M R Z pc lv (.int x :: st) h cells slots := by
  intro p e s m args below meth c H locs ls X hc hS hl
  exact lv_if_le X.1 X.2.1 hd ht (fun q => kt q p e s m args below meth c H locs ls X hc hS hl) (fun q => kf q p e s m args below meth c H locs ls X hc hS hl)
theorem gr_icmple {x y : Int32} {off : Int} (tgt : Nat) (hd : decode M.2.1 pc = .ok (.if_icmp .le off, 3)) (ht : (pc : Int) + off = (tgt : Int)) (kt : x ≤ y → ga_G l E M R Z tgt lv st h cells slots) (kf : ¬ x ≤ y → ga_G l E M R Z (pc + 3) lv st h cells slots) : ga_G l E M R Z pc lv (.int y :: .int x :: st) h cells slots := by
  intro p e s m args below meth c H locs ls X hc hS hl
  exact lv_icmp_le X.1 X.2.1 hd ht (fun q => kt q p e s m args below meth c H locs ls X hc hS hl) (fun q => kf q p e s m args below meth c H locs ls X hc hS hl)
theorem gr_icmpeqN {a b : Nat} {off : Int} (tgt : Nat) (hd : decode M.2.1 pc = .ok (.if_icmp .eq off, 3)) (ht : (pc : Int) + off = (tgt : Int)) (ha : a < 2 ^ 31) (hb : b < 2 ^ 31) (kt : a = b → ga_G l E M R Z tgt lv st h cells slots) (kf : a ≠ b → ga_G l E M R Z (pc + 3) lv st h cells slots) : ga_G l E M R Z pc lv (.int (nI b) :: .int (nI a) :: st) h cells slots :=
  gr_icmpeq tgt hd ht (fun q => kt ((nI_eq ha hb).mp q)) (fun q => kf (fun z => q ((nI_eq ha hb).mpr z)))
theorem gr_icmpneN {a b : Nat} {off : Int} (tgt : Nat) (hd : decode M.2.1 pc = .ok (.if_icmp .ne off, 3)) (ht : (pc : Int) + off = (tgt : Int)) (ha : a < 2 ^ 31) (hb : b < 2 ^ 31) (kt : a ≠ b → ga_G l E M R Z tgt lv st h cells slots) (kf : a = b → ga_G l E M R Z (pc + 3) lv st h cells slots) : ga_G l E M R Z pc lv (.int (nI b) :: .int (nI a) :: st) h cells slots :=
  gr_icmpne tgt hd ht (fun q => kt (fun z => q ((nI_eq ha hb).mpr z))) (fun q => kf ((nI_eq ha hb).mp q))
theorem gr_icmpltN {a b : Nat} {off : Int} (tgt : Nat) (hd : decode M.2.1 pc = .ok (.if_icmp .lt off, 3)) (ht : (pc : Int) + off = (tgt : Int)) (ha : a < 2 ^ 31) (hb : b < 2 ^ 31) (kt : a < b → ga_G l E M R Z tgt lv st h cells slots) (kf : b ≤ a → ga_G l E M R Z (pc + 3) lv st h cells slots) : ga_G l E M R Z pc lv (.int (nI b) :: .int (nI a) :: st) h cells slots :=
  gr_icmplt tgt hd ht (fun q => kt ((nI_ltI ha hb).mp q)) (fun q => kf (Nat.not_lt.mp (fun z => q ((nI_ltI ha hb).mpr z))))
theorem gr_icmpgeN {a b : Nat} {off : Int} (tgt : Nat) (hd : decode M.2.1 pc = .ok (.if_icmp .ge off, 3)) (ht : (pc : Int) + off = (tgt : Int)) (ha : a < 2 ^ 31) (hb : b < 2 ^ 31) (kt : b ≤ a → ga_G l E M R Z tgt lv st h cells slots) (kf : a < b → ga_G l E M R Z (pc + 3) lv st h cells slots) : ga_G l E M R Z pc lv (.int (nI b) :: .int (nI a) :: st) h cells slots :=
  gr_icmpge tgt hd ht (fun q => kt ((nI_leI hb ha).mp q)) (fun q => kf (Nat.not_le.mp (fun z => q ((nI_leI hb ha).mpr z))))
theorem gr_icmpgtN {a b : Nat} {off : Int} (tgt : Nat) (hd : decode M.2.1 pc = .ok (.if_icmp .gt off, 3)) (ht : (pc : Int) + off = (tgt : Int)) (ha : a < 2 ^ 31) (hb : b < 2 ^ 31) (kt : b < a → ga_G l E M R Z tgt lv st h cells slots) (kf : a ≤ b → ga_G l E M R Z (pc + 3) lv st h cells slots) : ga_G l E M R Z pc lv (.int (nI b) :: .int (nI a) :: st) h cells slots :=
  gr_icmpgt tgt hd ht (fun q => kt ((nI_ltI hb ha).mp q)) (fun q => kf (Nat.not_lt.mp (fun z => q ((nI_ltI hb ha).mpr z))))
theorem gr_icmpleN {a b : Nat} {off : Int} (tgt : Nat) (hd : decode M.2.1 pc = .ok (.if_icmp .le off, 3)) (ht : (pc : Int) + off = (tgt : Int)) (ha : a < 2 ^ 31) (hb : b < 2 ^ 31) (kt : a ≤ b → ga_G l E M R Z tgt lv st h cells slots) (kf : b < a → ga_G l E M R Z (pc + 3) lv st h cells slots) : ga_G l E M R Z pc lv (.int (nI b) :: .int (nI a) :: st) h cells slots :=
  gr_icmple tgt hd ht (fun q => kt ((nI_leI ha hb).mp q)) (fun q => kf (Nat.not_le.mp (fun z => q ((nI_leI ha hb).mpr z))))
theorem gr_ifeqN {a : Nat} {off : Int} (tgt : Nat) (hd : decode M.2.1 pc = .ok (.ifCond .eq off, 3)) (ht : (pc : Int) + off = (tgt : Int)) (ha : a < 2 ^ 31) (kt : a = 0 → ga_G l E M R Z tgt lv st h cells slots) (kf : a ≠ 0 → ga_G l E M R Z (pc + 3) lv st h cells slots) : ga_G l E M R Z pc lv (.int (nI a) :: st) h cells slots :=
  gr_ifeq tgt hd ht (fun q => kt ((nI_eq ha (by decide)).mp (q.trans nI_0.symm))) (fun q => kf (fun z => q (by rw [z]; exact nI_0)))
theorem gr_ifneN {a : Nat} {off : Int} (tgt : Nat) (hd : decode M.2.1 pc = .ok (.ifCond .ne off, 3)) (ht : (pc : Int) + off = (tgt : Int)) (ha : a < 2 ^ 31) (kt : a ≠ 0 → ga_G l E M R Z tgt lv st h cells slots) (kf : a = 0 → ga_G l E M R Z (pc + 3) lv st h cells slots) : ga_G l E M R Z pc lv (.int (nI a) :: st) h cells slots :=
  gr_ifne tgt hd ht (fun q => kt (fun z => q (by rw [z]; exact nI_0))) (fun q => kf ((nI_eq ha (by decide)).mp (q.trans nI_0.symm)))
theorem gr_ifleN {a : Nat} {off : Int} (tgt : Nat) (hd : decode M.2.1 pc = .ok (.ifCond .le off, 3)) (ht : (pc : Int) + off = (tgt : Int)) (ha : a < 2 ^ 31) (kt : a = 0 → ga_G l E M R Z tgt lv st h cells slots) (kf : a ≠ 0 → ga_G l E M R Z (pc + 3) lv st h cells slots) : ga_G l E M R Z pc lv (.int (nI a) :: st) h cells slots :=
  gr_ifle tgt hd ht (fun q => kt (by
    by_cases z : a = 0
    · exact z
    · exact absurd q (nI_nle (by omega) ha))) (fun q => kf (fun z => q (by rw [z]; exact nI_le (Nat.le_refl 0) (by decide))))
theorem gr_ifltN {a : Nat} {off : Int} (hd : decode M.2.1 pc = .ok (.ifCond .lt off, 3)) (tgt : Nat) (ht : (pc : Int) + off = (tgt : Int)) (ha : a < 2 ^ 31) (kf : ga_G l E M R Z (pc + 3) lv st h cells slots) : ga_G l E M R Z pc lv (.int (nI a) :: st) h cells slots :=
  gr_iflt tgt hd ht (fun q => absurd q (nI_pos ha)) (fun _ => kf)
theorem gr_goto {off : Int} (tgt : Nat) (hd : decode M.2.1 pc = .ok (.goto off, 3)) (ht : (pc : Int) + off = (tgt : Int)) (k : ga_G l E M R Z tgt lv st h cells slots) : ga_G l E M R Z pc lv st h cells slots := by
  intro p e s m args below meth c H locs ls X hc hS hl
  exact lv_goto X.1 X.2.1 hd ht (k p e s m args below meth c H locs ls X hc hS hl)
abbrev ga_i (E : ga_E) (n : Nat) (f : Nat → Int32) : va_E := .inl (ga_cI E, n, .inl f)
abbrev ga_z (E : ga_E) (n : Nat) (f : Nat → Int32) : va_E := .inl (ga_cZ E, n, .inl f)
abbrev ga_j (E : ga_E) (n : Nat) (f : Nat → Int64) : va_E := .inl (ga_cJ E, n, .inr (.inl f))
abbrev ga_ii (E : ga_E) (n : Nat) (f : Nat → Option Nat) : va_E := .inl (ga_cII E, n, .inr (.inr (.inr (.inr f))))
abbrev ga_rr (E : ga_E) (n : Nat) (f : Nat → Option Nat) : va_E := .inl (ga_cR E, n, .inr (.inr (.inr (.inr f))))
abbrev ga_o (ci : Nat) (fs : List Value) : va_E := .inr (ci, fs)
/-- a class of the world: its number, fields, slots, words *)-/
def ga_cls (ci : Nat) (C : String) (T : u_T) (N : Nat) (ty : Nat → FieldType) : Prop := vwCl[ci]? = some (C, T, N) ∧ (∀ w ∈ u_ws C T N, w ∈ ga_Gl) ∧ (∀ k, k < N → parseFieldDescriptor (T k).2.2.1 = some (ty k)) ∧ (∀ a, a < N → ∀ b, b < N → a ≠ b → (T a).2.1 ≠ (T b).2.1)
theorem gr_getf {index ci a N : Nat} {C : String} {T : u_T} {ty : Nat → FieldType} {fs : List Value} {v : Value} (hd : decode M.2.1 pc = .ok (.getfield index, 3)) (hcl : ga_cls ci C T N ty) (k : Nat) (hk : k < N) (hw : Cond.fieldLink M.1.cls index (T k).1 (T k).2.1 (T k).2.2.1 ∈ ga_Gl) (ha : h a = some (ga_o ci fs)) (hv : fs[k]? = some v) (kk : ga_G l E M R Z (pc + 3) lv (v :: st) h cells slots) : ga_G l E M R Z pc lv (.ref a :: st) h cells slots := by
  intro p e s m args below meth c H locs ls X hc hS hl
  obtain ⟨L, f, hP, hD, hat, -, -⟩ := hc.at
  obtain ⟨q0, hq⟩ := hat a _ ha
  exact va_get X.1 X.2.1 X.2.2.2.2.2.2.2.1 hcl.2.1 X.2.2.2.2.2.2.1 X.2.2.2.2.2.2.2.2.2.1.1 hP q0 hq hcl.1 k hk (X.2.2.2.2.2.2.2.1 _ hw) (fun _ z => z) hv hd (kk p e s m args below meth c H locs ls X hc hS hl)
theorem gr_putf {index ci a N : Nat} {C : String} {T : u_T} {ty : Nat → FieldType} {fs : List Value} {v : Value} (hd : decode M.2.1 pc = .ok (.putfield index, 3)) (hcl : ga_cls ci C T N ty) (k : Nat) (hk : k < N) (hw : Cond.fieldLink M.1.cls index (T k).1 (T k).2.1 (T k).2.2.1 ∈ ga_Gl) (hfin : (T k).2.2.2 = false) (hn : narrow (ty k) v = v) (hfit : fits (ty k) v = true) (hlen : k < fs.length) (ha : h a = some (ga_o ci fs)) (kk : ga_G l E M R Z (pc + 3) lv st (ga_up h a (ga_o ci (fs.set k v))) cells slots) : ga_G l E M R Z pc lv (v :: .ref a :: st) h cells slots := by
  intro p e s m args below meth c H locs ls X hc hS hl
  obtain ⟨L, f, hP, hD, hat, hset, -⟩ := hc.at
  obtain ⟨q0, hq⟩ := hat a _ ha
  exact va_put X.1 X.2.1 X.2.2.2.2.2.2.2.1 hcl.2.1 ty hcl.2.2.1 hcl.2.2.2 X.2.2.2.2.2.2.1 X.2.2.2.2.2.2.2.2.2.1.1 hP hD hS q0 hq hcl.1 k hk (X.2.2.2.2.2.2.2.1 _ hw) (fun _ z => z) hfin (hcl.2.2.1 k hk) hn hfit hlen hd
    (fun H1 locs1 hP1 hD1 hS1 => kk p e s m args below meth c H1 locs1 ls X (hset a _ _ H1 q0 ha hq hP1 hD1) hS1 hl)
theorem gr_putF {index ci a N : Nat} {C : String} {T : u_T} {ty : Nat → FieldType} {fs : List Value} {v : Value} (hd : decode M.2.1 pc = .ok (.putfield index, 3)) (hcl : ga_cls ci C T N ty) (k : Nat) (hk : k < N) (hw : Cond.fieldLink M.1.cls index (T k).1 (T k).2.1 (T k).2.2.1 ∈ ga_Gl) (hfin : (T k).2.2.2 = true) (hin : M.1.name = "<init>") (hown : (T k).1 = M.1.cls) (hn : narrow (ty k) v = v) (hfit : fits (ty k) v = true) (hlen : k < fs.length) (ha : h a = some (ga_o ci fs)) (kk : ga_G l E M R Z (pc + 3) lv st (ga_up h a (ga_o ci (fs.set k v))) cells slots) : ga_G l E M R Z pc lv (v :: .ref a :: st) h cells slots := by
  intro p e s m args below meth c H locs ls X hc hS hl
  obtain ⟨L, f, hP, hD, hat, hset, -⟩ := hc.at
  obtain ⟨q0, hq⟩ := hat a _ ha
  exact va_putF X.1 X.2.1 X.2.2.2.2.2.2.2.1 hcl.2.1 ty hcl.2.2.1 hcl.2.2.2 X.2.2.2.2.2.2.1 X.2.2.2.2.2.2.2.2.2.1.1 hP hD hS q0 hq hcl.1 k hk (X.2.2.2.2.2.2.2.1 _ hw) (fun _ z => z) hfin (X.2.2.2.2.2.1.trans hin) hown (hcl.2.2.1 k hk) hn hfit hlen hd
    (fun H1 locs1 hP1 hD1 hS1 => kk p e s m args below meth c H1 locs1 ls X (hset a _ _ H1 q0 ha hq hP1 hD1) hS1 hl)
theorem gr_iaload {a j n : Nat} {f : Nat → Int32} (hd : decode M.2.1 pc = .ok (.iaload, 1)) (ha : h a = some (ga_i E n f)) (hj : j < n) (hn : n < 2 ^ 31) (k : ga_G l E M R Z (pc + 1) lv (.int (f j) :: st) h cells slots) : ga_G l E M R Z pc lv (.int (nI j) :: .ref a :: st) h cells slots := by
  intro p e s m args below meth c H locs ls X hc hS hl
  obtain ⟨L, f0, hP, hD, hat, -, -⟩ := hc.at
  obtain ⟨q0, hq⟩ := hat a _ ha
  refine va_iald X.1 X.2.1 X.2.2.2.2.2.2.2.2.2.1.1 hP q0 0 hq rfl (vp_in_nI hj hn) hd ?_
  rw [nI_clamp (by omega)]
  exact k p e s m args below meth c H locs ls X hc hS hl
theorem gr_zaload {a j n : Nat} {f : Nat → Int32} (hd : decode M.2.1 pc = .ok (.baload, 1)) (ha : h a = some (ga_z E n f)) (hj : j < n) (hn : n < 2 ^ 31) (k : ga_G l E M R Z (pc + 1) lv (.int (f j) :: st) h cells slots) : ga_G l E M R Z pc lv (.int (nI j) :: .ref a :: st) h cells slots := by
  intro p e s m args below meth c H locs ls X hc hS hl
  obtain ⟨L, f0, hP, hD, hat, -, -⟩ := hc.at
  obtain ⟨q0, hq⟩ := hat a _ ha
  refine va_zald X.1 X.2.1 X.2.2.2.2.2.2.2.2.2.1.1 hP q0 1 hq rfl (vp_in_nI hj hn) hd ?_
  rw [nI_clamp (by omega)]
  exact k p e s m args below meth c H locs ls X hc hS hl
theorem gr_laload {a j n : Nat} {f : Nat → Int64} (hd : decode M.2.1 pc = .ok (.laload, 1)) (ha : h a = some (ga_j E n f)) (hj : j < n) (hn : n < 2 ^ 31) (k : ga_G l E M R Z (pc + 1) lv (.long (f j) :: st) h cells slots) : ga_G l E M R Z pc lv (.int (nI j) :: .ref a :: st) h cells slots := by
  intro p e s m args below meth c H locs ls X hc hS hl
  obtain ⟨L, f0, hP, hD, hat, -, -⟩ := hc.at
  obtain ⟨q0, hq⟩ := hat a _ ha
  refine va_lald X.1 X.2.1 X.2.2.2.2.2.2.2.2.2.1.1 hP q0 2 hq rfl (vp_in_nI hj hn) hd ?_
  rw [nI_clamp (by omega)]
  exact k p e s m args below meth c H locs ls X hc hS hl
theorem gr_aaloadI {a j n b : Nat} {f : Nat → Option Nat} (hd : decode M.2.1 pc = .ok (.aaload, 1)) (ha : h a = some (ga_ii E n f)) (hj : j < n) (hn : n < 2 ^ 31) (hb : f j = some b) (k : ga_G l E M R Z (pc + 1) lv (.ref b :: st) h cells slots) : ga_G l E M R Z pc lv (.int (nI j) :: .ref a :: st) h cells slots := by
  intro p e s m args below meth c H locs ls X hc hS hl
  obtain ⟨L, f0, hP, hD, hat, -, -⟩ := hc.at
  obtain ⟨q0, hq⟩ := hat a _ ha
  have hlt : (nI j).toNatClampNeg < n := by rw [nI_clamp (by omega)]; exact hj
  refine W.aald (v := va_rf (f (nI j).toNatClampNeg)) (ty := .array .int) X.1 X.2.1 (hP q0 _ hq) ((X.2.2.2.2.2.2.2.2.2.1.1.2 3 _ rfl).1 n (fun j => va_rf (f j))) rfl (fun q => by cases q) (by show ¬ (nI j < 0 ∨ (arrV _ _ _).slots.size ≤ _); rw [arrV_size]; exact vp_in_nI hj hn) (by show (arrV _ _ _).slots[_]? = _; rw [arrV_read _ _ hlt]) rfl rfl hd ?_
  rw [nI_clamp (by omega), hb]
  exact k p e s m args below meth c H locs ls X hc hS hl
theorem gr_aaloadR {a j n b : Nat} {f : Nat → Option Nat} (hd : decode M.2.1 pc = .ok (.aaload, 1)) (ha : h a = some (ga_rr E n f)) (hj : j < n) (hn : n < 2 ^ 31) (hb : f j = some b) (k : ga_G l E M R Z (pc + 1) lv (.ref b :: st) h cells slots) : ga_G l E M R Z pc lv (.int (nI j) :: .ref a :: st) h cells slots := by
  intro p e s m args below meth c H locs ls X hc hS hl
  obtain ⟨L, f0, hP, hD, hat, -, -⟩ := hc.at
  obtain ⟨q0, hq⟩ := hat a _ ha
  have hlt : (nI j).toNatClampNeg < n := by rw [nI_clamp (by omega)]; exact hj
  refine W.aald (v := va_rf (f (nI j).toNatClampNeg)) (ty := .object RX6) X.1 X.2.1 (hP q0 _ hq) ((X.2.2.2.2.2.2.2.2.2.1.1.2 4 _ rfl).1 n (fun j => va_rf (f j))) rfl (fun q => by cases q) (by show ¬ (nI j < 0 ∨ (arrV _ _ _).slots.size ≤ _); rw [arrV_size]; exact vp_in_nI hj hn) (by show (arrV _ _ _).slots[_]? = _; rw [arrV_read _ _ hlt]) rfl rfl hd ?_
  rw [nI_clamp (by omega), hb]
  exact k p e s m args below meth c H locs ls X hc hS hl
theorem gr_iastore {a j n : Nat} {f : Nat → Int32} {x : Int32} (hd : decode M.2.1 pc = .ok (.iastore, 1)) (ha : h a = some (ga_i E n f)) (hj : j < n) (hn : n < 2 ^ 31) (k : ga_G l E M R Z (pc + 1) lv st (ga_up h a (ga_i E n (upd f j x))) cells slots) : ga_G l E M R Z pc lv (.int x :: .int (nI j) :: .ref a :: st) h cells slots := by
  intro p e s m args below meth c H locs ls X hc hS hl
  obtain ⟨L, f0, hP, hD, hat, hset, -⟩ := hc.at
  obtain ⟨q0, hq⟩ := hat a _ ha
  refine va_iast X.1 X.2.1 X.2.2.2.2.2.2.2.2.2.1.1 hP hD hS q0 0 hq rfl (vp_in_nI hj hn) hd (fun H1 locs1 hP1 hD1 hS1 => ?_)
  rw [nI_clamp (by omega)] at hP1 hD1
  exact k p e s m args below meth c H1 locs1 ls X (hset a _ _ H1 q0 ha hq hP1 hD1) hS1 hl
theorem gr_zastore {a j n : Nat} {f : Nat → Int32} {x : Int32} (hd : decode M.2.1 pc = .ok (.bastore, 1)) (ha : h a = some (ga_z E n f)) (hj : j < n) (hn : n < 2 ^ 31) (hx : vp_nar .boolean x = x) (k : ga_G l E M R Z (pc + 1) lv st (ga_up h a (ga_z E n (upd f j x))) cells slots) : ga_G l E M R Z pc lv (.int x :: .int (nI j) :: .ref a :: st) h cells slots := by
  intro p e s m args below meth c H locs ls X hc hS hl
  obtain ⟨L, f0, hP, hD, hat, hset, -⟩ := hc.at
  obtain ⟨q0, hq⟩ := hat a _ ha
  refine va_zast X.1 X.2.1 X.2.2.2.2.2.2.2.2.2.1.1 hP hD hS q0 1 hq rfl (vp_in_nI hj hn) hd (fun H1 locs1 hP1 hD1 hS1 => ?_)
  rw [nI_clamp (by omega), hx] at hP1 hD1
  exact k p e s m args below meth c H1 locs1 ls X (hset a _ _ H1 q0 ha hq hP1 hD1) hS1 hl
theorem gr_lastore {a j n : Nat} {f : Nat → Int64} {x : Int64} (hd : decode M.2.1 pc = .ok (.lastore, 1)) (ha : h a = some (ga_j E n f)) (hj : j < n) (hn : n < 2 ^ 31) (k : ga_G l E M R Z (pc + 1) lv st (ga_up h a (ga_j E n (vp_updL f j x))) cells slots) : ga_G l E M R Z pc lv (.long x :: .int (nI j) :: .ref a :: st) h cells slots := by
  intro p e s m args below meth c H locs ls X hc hS hl
  obtain ⟨L, f0, hP, hD, hat, hset, -⟩ := hc.at
  obtain ⟨q0, hq⟩ := hat a _ ha
  refine va_last X.1 X.2.1 X.2.2.2.2.2.2.2.2.2.1.1 hP hD hS q0 2 hq rfl (vp_in_nI hj hn) hd (fun H1 locs1 hP1 hD1 hS1 => ?_)
  rw [nI_clamp (by omega)] at hP1 hD1
  exact k p e s m args below meth c H1 locs1 ls X (hset a _ _ H1 q0 ha hq hP1 hD1) hS1 hl
theorem gr_aastoreR {a b j n : Nat} {f : Nat → Option Nat} {vs : List Value} (hd : decode M.2.1 pc = .ok (.aastore, 1)) (ha : h a = some (ga_rr E n f)) (hb : h b = some (ga_o 6 vs)) (hj : j < n) (hn : n < 2 ^ 31) (k : ga_G l E M R Z (pc + 1) lv st (ga_up h a (ga_rr E n (va_up f j (some b)))) cells slots) : ga_G l E M R Z pc lv (.ref b :: .int (nI j) :: .ref a :: st) h cells slots := by
  intro p e s m args below meth c H locs ls X hc hS hl
  obtain ⟨L, f0, hP, hD, hat, hset, -⟩ := hc.at
  obtain ⟨q0, hq⟩ := hat a _ ha
  obtain ⟨q1, hq1⟩ := hat b _ hb
  refine va_astq (r := (RX6, TX6, 2)) X.1 X.2.1 X.2.2.2.2.2.2.2.2.2.1.1 hP hD hS q0 4 q1 6 hq rfl hq1 rfl (vp_in_nI hj hn) hd (fun H1 locs1 hP1 hD1 hS1 => ?_)
  rw [nI_clamp (by omega)] at hP1 hD1
  exact k p e s m args below meth c H1 locs1 ls X (hset a _ _ H1 q0 ha hq hP1 hD1) hS1 hl
theorem gr_alen_i {a n : Nat} {f : Nat → Int32} (hd : decode M.2.1 pc = .ok (.arraylength, 1)) (ha : h a = some (ga_i E n f)) (k : ga_G l E M R Z (pc + 1) lv (.int (nI n) :: st) h cells slots) : ga_G l E M R Z pc lv (.ref a :: st) h cells slots := by
  intro p e s m args below meth c H locs ls X hc hS hl
  obtain ⟨L, f0, hP, hD, hat, -, -⟩ := hc.at
  obtain ⟨q0, hq⟩ := hat a _ ha
  exact va_alen X.1 X.2.1 X.2.2.2.2.2.2.2.2.2.1.1 hP q0 0 hq rfl rfl hd (k p e s m args below meth c H locs ls X hc hS hl)
theorem gr_alen_z {a n : Nat} {f : Nat → Int32} (hd : decode M.2.1 pc = .ok (.arraylength, 1)) (ha : h a = some (ga_z E n f)) (k : ga_G l E M R Z (pc + 1) lv (.int (nI n) :: st) h cells slots) : ga_G l E M R Z pc lv (.ref a :: st) h cells slots := by
  intro p e s m args below meth c H locs ls X hc hS hl
  obtain ⟨L, f0, hP, hD, hat, -, -⟩ := hc.at
  obtain ⟨q0, hq⟩ := hat a _ ha
  exact va_alen X.1 X.2.1 X.2.2.2.2.2.2.2.2.2.1.1 hP q0 1 hq rfl rfl hd (k p e s m args below meth c H locs ls X hc hS hl)
theorem gr_alen_ii {a n : Nat} {f : Nat → Option Nat} (hd : decode M.2.1 pc = .ok (.arraylength, 1)) (ha : h a = some (ga_ii E n f)) (k : ga_G l E M R Z (pc + 1) lv (.int (nI n) :: st) h cells slots) : ga_G l E M R Z pc lv (.ref a :: st) h cells slots := by
  intro p e s m args below meth c H locs ls X hc hS hl
  obtain ⟨L, f0, hP, hD, hat, -, -⟩ := hc.at
  obtain ⟨q0, hq⟩ := hat a _ ha
  exact va_alen X.1 X.2.1 X.2.2.2.2.2.2.2.2.2.1.1 hP q0 3 hq rfl rfl hd (k p e s m args below meth c H locs ls X hc hS hl)
theorem gr_alen_rr {a n : Nat} {f : Nat → Option Nat} (hd : decode M.2.1 pc = .ok (.arraylength, 1)) (ha : h a = some (ga_rr E n f)) (k : ga_G l E M R Z (pc + 1) lv (.int (nI n) :: st) h cells slots) : ga_G l E M R Z pc lv (.ref a :: st) h cells slots := by
  intro p e s m args below meth c H locs ls X hc hS hl
  obtain ⟨L, f0, hP, hD, hat, -, -⟩ := hc.at
  obtain ⟨q0, hq⟩ := hat a _ ha
  exact va_alen X.1 X.2.1 X.2.2.2.2.2.2.2.2.2.1.1 hP q0 4 hq rfl rfl hd (k p e s m args below meth c H locs ls X hc hS hl)
end GR
end
section
/-! Returns, calls, new cells, copies -/
section GS
variable {l : Launch} {E : ga_E} {M : ga_M} {R : Room} {Z : List Frame → Array Value → State → State → Prop} {pc : Nat} {lv lv' : List (Option Value)} {st : List Value} {h h' : ga_H} {cells slots : Nat}
theorem gr_ireturn {Post : Option Value → ga_H → Prop} {nc ns : Nat} {v : Int32} (hd : decode M.2.1 pc = .ok (.ireturn, 1)) (hret : M.2.2.2.1 = some .int) (h1 : cells ≤ nc) (h2 : slots ≤ ns) (hp : Post (some (.int v)) h) : ga_G l E M R (ga_Z E Post nc ns) pc lv [.int v] h cells slots := by
  intro p e s m args below meth c H locs ls X hc hS hl
  refine W.widen h1 h2 ?_
  exact W.iret X.1 X.2.1 (X.2.2.2.1.trans hret) (fun t ht hW => ⟨⟨_, h, rfl, hp, by rw [ht]; exact hc⟩, hS.F ht⟩) hS.2.2 hd X.2.2.2.2.1
theorem gr_lreturn {Post : Option Value → ga_H → Prop} {nc ns : Nat} {v : Int64} (hd : decode M.2.1 pc = .ok (.lreturn, 1)) (hret : M.2.2.2.1 = some .long) (h1 : cells ≤ nc) (h2 : slots ≤ ns) (hp : Post (some (.long v)) h) : ga_G l E M R (ga_Z E Post nc ns) pc lv [.long v] h cells slots := by
  intro p e s m args below meth c H locs ls X hc hS hl
  refine W.widen h1 h2 ?_
  exact W.lret X.1 X.2.1 (X.2.2.2.1.trans hret) (fun t ht hW => ⟨⟨_, h, rfl, hp, by rw [ht]; exact hc⟩, hS.F ht⟩) hS.2.2 hd X.2.2.2.2.1
theorem gr_zreturn {Post : Option Value → ga_H → Prop} {nc ns : Nat} {v : Int32} (hd : decode M.2.1 pc = .ok (.ireturn, 1)) (hret : M.2.2.2.1 = some .boolean) (hn : narrow .boolean (.int v) = .int v) (h1 : cells ≤ nc) (h2 : slots ≤ ns) (hp : Post (some (.int v)) h) : ga_G l E M R (ga_Z E Post nc ns) pc lv [.int v] h cells slots := by
  intro p e s m args below meth c H locs ls X hc hS hl
  refine W.widen h1 h2 ?_
  exact W.zret X.1 X.2.1 (X.2.2.2.1.trans hret) hn (fun t ht hW => ⟨⟨_, h, rfl, hp, by rw [ht]; exact hc⟩, hS.F ht⟩) hS.2.2 hd X.2.2.2.2.1
theorem gr_return {Post : Option Value → ga_H → Prop} {nc ns : Nat} (hd : decode M.2.1 pc = .ok (.return_, 1)) (hret : M.2.2.2.1 = none) (h1 : cells ≤ nc) (h2 : slots ≤ ns) (hp : Post none h) : ga_G l E M R (ga_Z E Post nc ns) pc lv [] h cells slots := by
  intro p e s m args below meth c H locs ls X hc hS hl
  refine W.widen h1 h2 ?_
  exact W.vret X.1 X.2.1 (X.2.2.2.1.trans hret) (fun t ht hW => ⟨⟨_, h, rfl, hp, by rw [ht]; exact hc⟩, hS.F ht⟩) hS.2.2 hd X.2.2.2.2.1
/-- a callee's words *)-/
theorem ga_good {ws : List Cond} (h0 : ∀ w ∈ ws, w ∈ ga_Gl) : GoodIn ga_Gl ws := fun w hw => ⟨h0 w hw, good_of_word (ga_Gl_good w (h0 w hw))⟩
theorem ga_Wd_in {M' : ga_M} (hcw : Cond.code M'.1 M'.2.1 M'.2.2.1 M'.2.2.2.1 ∈ ga_Gl) : ∀ w ∈ ga_Wd M', w ∈ ga_Gl := fun w hw => by
  rcases List.mem_cons.mp hw with rfl | hw
  · exact hcw
  · exact hw
/-- a method that a call may name: its code's word, its class, its parameters *)-/
def ga_yes (M' : ga_M) (n : Nat) : Prop := Cond.code M'.1 M'.2.1 M'.2.2.1 M'.2.2.2.1 ∈ ga_Gl ∧ Cond.initialized M'.1.cls ∈ ga_Gl ∧ (M'.1.cls ≠ "java/lang/invoke/MethodHandle" ∧ M'.1.cls ≠ "java/lang/invoke/VarHandle" ∧ (parseMethodDescriptor M'.1.desc).map (fun d => d.parameters.length) = some n) ∧ M'.2.2.1 ≤ 45
/-- behind a call *)-/
theorem ga_back {p : Program} {e : Env} {s : State} {m : MethodId} {args : Array Value} {below : List Frame} {meth : Method} {c : Code} {H : Heap} {locs : List Loc} {ls : Array Slot} {st0 rest : List Value} {a : Array Value} {mc ms : Nat} {Post : Option Value → ga_H → Prop}
    (X : ga_Cx E M p s m args meth c) (hS : va_S (ga_A E) s.heap H locs) (hl : ga_L ls M.2.2.1 lv) (hr : va_Run p l e R s m args below meth c H locs cells slots mc ms (F0 m pc ls st0) rest (ga_Q E Post a) (ga_A E))
    (k : ∀ (r : Option Value) (h' : ga_H), Post r h' → ga_G l E M R Z (pc + 3) lv (r.toList ++ rest) h' (cells + mc) (slots + ms)) : W p l e R s m args below meth c H locs cells slots (Z below args s) (F0 m pc ls st0) := by
  intro T hT Xs
  obtain ⟨v, st₀, t, T', L, h0, X', hL, e1, e2, ⟨⟨r, h', hv, hp, hC⟩, hz, hk⟩, stp⟩ := hr T hT Xs
  cases hv
  rw [h0] at hz hk
  obtain ⟨t2, a1, b1⟩ := k _ h' hp p e s m args below meth c T'.heap (locs ++ L) ls X (by rw [e1]; exact hC)
    ⟨Nat.le_trans hS.1 (by rw [e1]; exact hz), fun q h1 h2 => by rw [e1, hk q (Nat.lt_of_lt_of_le h1 hS.1) h2]; exact hS.2.1 q h1 h2, fun q hq => by
      rcases List.mem_append.mp hq with h | h
      · exact hS.2.2 q h
      · exact hL q h⟩ hl T' rfl X'
  exact ⟨t2, stp t2 a1, b1⟩
theorem ga_pre {s : State} {H : Heap} {locs : List Loc} {p : Program} {m : MethodId} {args : Array Value} {meth : Method} {c : Code} (X : ga_Cx E M p s m args meth c) (hc : ga_C E h H) (hS : va_S (ga_A E) s.heap H locs) (As : List Value) : ∀ U : State, U.heap = H → s.WarmedH U.vm → va_Pc As (ga_Pre E h) As.toArray U := by
  intro U hU hW
  obtain ⟨-, -, -, -, -, -, -, -, x9, x10, -, x12⟩ := X
  refine ⟨rfl, ?_, x10.warm hW, ?_, by rw [hU]; exact hc⟩
  · rw [hU]; exact Nat.le_trans x9 hS.1
  · rw [hU]
    exact (x12.kept (fun a h1 h2 => hS.2.1 a h1 h2)).moved hW.alike
theorem gr_callS {M' : ga_M} {d nc ns index n : Nat} {As rest : List Value} {Post : Option Value → ga_H → Prop} (hd : decode M.2.1 pc = .ok (.invokestatic index, 3)) (hM : ga_Ok l E d M' As h nc ns Post) (hy : ga_yes M' n) (hw : Cond.methodLink M.1.cls index M'.1 ∈ ga_Gl ∧ Cond.static M'.1 ∈ ga_Gl) (hn : As.length = n) (hst : st = As.reverse ++ rest) (hW : (rest.map fun v => v.category).sum ≤ 8) (hR : d + 1 ≤ R.frames ∧ 64 * (d + 1) ≤ R.locals) (hcs : cells + nc ≤ R.cells ∧ slots + ns ≤ R.slots)
    (k : ∀ (r : Option Value) (h' : ga_H), Post r h' → ga_G l E M R Z (pc + 3) lv (r.toList ++ rest) h' (cells + nc) (slots + ns)) : ga_G l E M R Z pc lv st h cells slots := by
  intro p e s m args below meth c H locs ls X hc hS hl
  have hcw := va_cwS (rm := ga_Rm d nc ns) (R := R) (index := index) (own := M.1.cls) n X.2.2.2.2.2.2.2.1 (ga_good (ws := va_wsS M.1.cls index M'.1 (ga_Wd M')) (fun w hw' => by
    rcases List.mem_append.mp hw' with h9 | h9
    · simp only [List.mem_cons, List.not_mem_nil, or_false] at h9
      rcases h9 with rfl | rfl | rfl
      · exact hw.1
      · exact hw.2
      · exact hy.2.1
    · exact ga_Wd_in hy.1 w h9)) rfl rfl rfl hy.2.2.1 ⟨hR.1, by have := hy.2.2.2; have := hR.2; show 8 + (M'.2.2.1 + 11) + 64 * d ≤ R.locals; omega⟩
  exact ga_back X hS hl (va_runS (As := As) (rest := rest) ⟨X.1, X.2.1, X.2.2.1, X.2.2.2.2.2.2.1, X.2.2.2.2.2.2.2.1⟩ hM hcw ⟨ga_Pre_blind, ga_pre X hc hS As⟩ rfl hn hl.1 hst (lv_room hW) hd hcs) k
theorem gr_callV {M' : ga_M} {d nc ns index n b ci N : Nat} {T : u_T} {fs As rest : List Value} {Post : Option Value → ga_H → Prop} (hd : decode M.2.1 pc = .ok (.invokevirtual index, 3)) (hM : ga_Ok l E d M' (.ref b :: As) h nc ns Post) (hy : ga_yes M' n) (hw : Cond.methodLink M.1.cls index M'.1 ∈ ga_Gl ∧ Cond.instanceMethod M'.1 ∈ ga_Gl ∧ Cond.selects M'.1.cls M'.1 M'.1 ∈ ga_Gl) (hb : h b = some (ga_o ci fs)) (hcl : vwCl[ci]? = some (M'.1.cls, T, N)) (hn : As.length = n) (hst : st = As.reverse ++ .ref b :: rest) (hW : (rest.map fun v => v.category).sum ≤ 8) (hR : d + 1 ≤ R.frames ∧ 64 * (d + 1) ≤ R.locals) (hcs : cells + nc ≤ R.cells ∧ slots + ns ≤ R.slots)
    (k : ∀ (r : Option Value) (h' : ga_H), Post r h' → ga_G l E M R Z (pc + 3) lv (r.toList ++ rest) h' (cells + nc) (slots + ns)) : ga_G l E M R Z pc lv st h cells slots := by
  intro p e s m args below meth c H locs ls X hc hS hl
  have hcw := cwV (rm := ga_Rm d nc ns) (R := R) (index := index) (own := M.1.cls) (C := M'.1.cls) n X.2.2.2.2.2.2.2.1 (ga_good (ws := wsV M.1.cls index M'.1.cls M'.1 (ga_Wd M')) (fun w hw' => by
    rcases List.mem_append.mp hw' with h9 | h9
    · simp only [List.mem_cons, List.not_mem_nil, or_false] at h9
      rcases h9 with rfl | rfl | rfl | rfl
      · exact hw.1
      · exact hw.2.1
      · exact hw.2.2
      · exact hy.2.1
    · exact ga_Wd_in hy.1 w h9)) rfl rfl rfl ⟨rfl, hy.2.2.1⟩ ⟨hR.1, by have := hy.2.2.2; have := hR.2; show 8 + (M'.2.2.1 + 11) + 64 * d ≤ R.locals; omega⟩
  obtain ⟨L, f0, hP, hD, hat, -, -⟩ := hc.at
  obtain ⟨q0, hq⟩ := hat b _ hb
  exact ga_back X hS hl (va_runV (As := As) (rest := rest) ⟨X.1, X.2.1, X.2.2.1, X.2.2.2.2.2.2.1, X.2.2.2.2.2.2.2.1⟩ hM hcw ⟨ga_Pre_blind, va_recv X.2.2.2.2.2.2.2.2.2.1.1 hP hcl hq, ga_pre X hc hS (.ref b :: As)⟩ rfl hn hl.1 hst (lv_room hW) hd hcs) k
theorem gr_callI {M' : ga_M} {d nc ns index n b : Nat} {As rest : List Value} {Post : Option Value → ga_H → Prop} (hd : decode M.2.1 pc = .ok (.invokespecial index, 3)) (hM : ga_Ok l E d M' (.ref b :: As) h nc ns Post) (hy : ga_yes M' n) (hr0 : M'.2.2.2.1 = none) (hi : M'.1.name = "<init>") (hw : Cond.methodLink M.1.cls index M'.1 ∈ ga_Gl ∧ Cond.instanceMethod M'.1 ∈ ga_Gl) (hn : As.length = n) (hst : st = As.reverse ++ .ref b :: rest) (hW : (rest.map fun v => v.category).sum ≤ 8) (hR : d + 1 ≤ R.frames ∧ 64 * (d + 1) ≤ R.locals) (hcs : cells + nc ≤ R.cells ∧ slots + ns ≤ R.slots)
    (k : ∀ (r : Option Value) (h' : ga_H), Post r h' → ga_G l E M R Z (pc + 3) lv (r.toList ++ rest) h' (cells + nc) (slots + ns)) : ga_G l E M R Z pc lv st h cells slots := by
  intro p e s m args below meth c H locs ls X hc hS hl
  have hcw := cwI (rm := ga_Rm d nc ns) (R := R) (index := index) (own := M.1.cls) n X.2.2.2.2.2.2.2.1 (ga_good (ga_Wd_in hy.1)) (by unfold ga_Wd; rw [hr0]) rfl rfl (X.2.2.2.2.2.2.2.1 _ hy.2.1) (X.2.2.2.2.2.2.2.1 _ hw.1) (X.2.2.2.2.2.2.2.1 _ hw.2) hi hy.2.2.1 ⟨hR.1, by have := hy.2.2.2; have := hR.2; show 8 + (M'.2.2.1 + 11) + 64 * d ≤ R.locals; omega⟩
  exact ga_back X hS hl (va_runI (As := As) (rest := rest) ⟨X.1, X.2.1, X.2.2.1, X.2.2.2.2.2.2.1, X.2.2.2.2.2.2.2.1⟩ hM hcw ⟨ga_Pre_blind, ga_pre X hc hS (.ref b :: As)⟩ rfl hn hl.1 hst (lv_room hW) hd hcs) k
theorem gr_callIN {M' : ga_M} {d nc ns index n b : Nat} {As rest : List Value} {Post : Option Value → ga_H → Prop} (hd : decode M.2.1 pc = .ok (.invokespecial index, 3)) (hM : ga_Ok l E d M' (.ref b :: As) h nc ns Post) (hy : ga_yes M' n) (hr0 : M'.2.2.2.1 = none) (hi : M'.1.name = "<init>") (hw : (M.1.cls, index, M'.1) ∈ ga_Nst ∧ Cond.instanceMethod M'.1 ∈ ga_Gl) (hn : As.length = n) (hst : st = As.reverse ++ .ref b :: rest) (hW : (rest.map fun v => v.category).sum ≤ 8) (hR : d + 1 ≤ R.frames ∧ 64 * (d + 1) ≤ R.locals) (hcs : cells + nc ≤ R.cells ∧ slots + ns ≤ R.slots)
    (k : ∀ (r : Option Value) (h' : ga_H), Post r h' → ga_G l E M R Z (pc + 3) lv (r.toList ++ rest) h' (cells + nc) (slots + ns)) : ga_G l E M R Z pc lv st h cells slots := by
  intro p e s m args below meth c H locs ls X hc hS hl
  have hcw := va_cnB (rm := ga_Rm d nc ns) (R := R) (index := index) (own := M.1.cls) (host := "RecurrenceAnswers") n X.2.2.2.2.2.2.2.1 (ga_good (ga_Wd_in hy.1)) (by unfold ga_Wd; rw [hr0]) rfl rfl (X.2.2.2.2.2.2.2.2.2.1.2.1 _ hw.1) (X.2.2.2.2.2.2.2.1 _ hy.2.1) hy.2.2.1 ⟨hR.1, by have := hy.2.2.2; have := hR.2; show 8 + (M'.2.2.1 + 11) + 64 * d ≤ R.locals; omega⟩
  exact ga_back X hS hl (va_runIN (As := As) (rest := rest) ⟨X.1, X.2.1, X.2.2.1, X.2.2.2.2.2.2.1, X.2.2.2.2.2.2.2.1⟩ hM ⟨hcw, hi, X.2.2.2.2.2.2.2.1 _ hw.2⟩ ⟨ga_Pre_blind, ga_pre X hc hS (.ref b :: As)⟩ rfl hn hl.1 hst (lv_room hW) hd hcs) k
theorem gr_objInit {index b : Nat} (hd : decode M.2.1 pc = .ok (.invokespecial index, 3)) (hw : Cond.methodLink M.1.cls index Lib.objectInit ∈ ga_Gl) (hR : 1 ≤ R.frames ∧ 64 ≤ R.locals) (hW : (st.map fun v => v.category).sum ≤ 8) (k : ga_G l E M R Z (pc + 3) lv st h cells slots) : ga_G l E M R Z pc lv (.ref b :: st) h cells slots := by
  intro p e s m args below meth c H locs ls X hc hS hl
  refine W.objInit (g := F0 m pc ls (.ref b :: st)) (rest := st) X.1 X.2.1 X.2.2.2.2.2.2.1 (X.2.2.2.2.2.2.2.1 _ hw) (X.2.2.2.2.2.2.2.1 _ ga_oi.1) (X.2.2.2.2.2.2.2.1 _ ga_oi.2) rfl (by rw [X.2.2.1]; exact hl.1) rfl hd hR.1 ?_ (k p e s m args below meth c H locs ls X hc hS hl)
  have := lv_room (m := m) (pc := pc) (ls := ls) (rest := st) (st := st) hW
  show 2 * (F0 m pc ls st).monitorRoom + _ + 12 ≤ _
  omega
theorem gr_newO {index ci N : Nat} {C : String} {T : u_T} {ty : Nat → FieldType} {fs : List Value} (hd : decode M.2.1 pc = .ok (.new index, 3)) (hcl : ga_cls ci C T N ty) (hw : Cond.classLink M.1.cls index C ∈ ga_Gl ∧ Cond.instantiable C N ∈ ga_Gl ∧ Cond.initialized C ∈ ga_Gl) (hfs : ∀ j, j < N → defaultValue (ty j) = vp_V fs j) (hcs : cells + 1 ≤ R.cells ∧ slots + N ≤ R.slots)
    (k : ∀ q : Nat, h q = none → ga_G l E M R Z (pc + 3) lv (.ref q :: st) (ga_up h q (ga_o ci fs)) (cells + 1) (slots + N)) : ga_G l E M R Z pc lv st h cells slots := by
  intro p e s m args below meth c H locs ls X hc hS hl
  obtain ⟨L, f0, hP, hD, hat, -, hnew⟩ := hc.at
  exact va_new X.1 X.2.1 X.2.2.2.2.2.2.2.1 hcl.2.1 ty hcl.2.2.1 X.2.2.2.2.2.2.1 (X.2.2.2.2.2.2.2.1 _ hw.1) (X.2.2.2.2.2.2.2.1 _ hw.2.1) (X.2.2.2.2.2.2.2.1 _ hw.2.2) X.2.2.2.2.2.2.2.2.2.1.1 hP hD hS (fun q hq => Nat.le_trans X.2.2.2.2.2.2.2.2.1 hq) hcl.1 hfs hcs.1 hcs.2 hd
    (fun q H1 hP1 hD1 hS1 => k q (hnew q _ H1 hP1 hD1).2 p e s m args below meth c H1 locs ls X (hnew q _ H1 hP1 hD1).1 hS1 hl)
theorem gr_newI {n : Nat} (hd : decode M.2.1 pc = .ok (.newarray .int, 2)) (hw : Cond.arrayClass .int ∈ ga_Gl) (hn : n < 10000) (hcs : cells + 1 ≤ R.cells ∧ slots + n ≤ R.slots)
    (k : ∀ q : Nat, h q = none → ga_G l E M R Z (pc + 2) lv (.ref q :: st) (ga_up h q (ga_i E n (fun _ => 0))) (cells + 1) (slots + n)) : ga_G l E M R Z pc lv (.int (nI n) :: st) h cells slots := by
  intro p e s m args below meth c H locs ls X hc hS hl
  obtain ⟨L, f0, hP, hD, hat, -, hnew⟩ := hc.at
  refine va_newa (atype := .int) (ty := .int) (N' := n) (a0 := (n, .inl (fun _ => 0))) X.1 X.2.1 (X.2.2.2.2.2.2.2.1 _ hw) rfl X.2.2.2.2.2.2.2.2.2.1.1 hP hD hS (fun q hq => Nat.le_trans X.2.2.2.2.2.2.2.2.1 hq) (fun cA => rfl) (nI_pos (by omega)) (nI_clamp (by omega)) (Nat.le_trans (Nat.mul_le_mul (Nat.le_of_lt hn) (by decide : componentBytes .int ≤ 8)) (by decide)) hcs.1 hcs.2 hd (fun q cA H1 hK1 hP1 hD1 hS1 => ?_)
  have e1 := (hK1.2 5 (cA, .int) rfl).2
  have e2 := (X.2.2.2.2.2.2.2.2.2.1.1.2 0 _ rfl).2
  have e3 : cA = ga_cI E := Option.some.inj (e1.symm.trans e2)
  subst e3
  exact k q (hnew q _ H1 hP1 hD1).2 p e s m args below meth c H1 locs ls X (hnew q _ H1 hP1 hD1).1 hS1 hl
theorem gr_newZ {n : Nat} (hd : decode M.2.1 pc = .ok (.newarray .boolean, 2)) (hw : Cond.arrayClass .boolean ∈ ga_Gl) (hn : n < 10000) (hcs : cells + 1 ≤ R.cells ∧ slots + n ≤ R.slots)
    (k : ∀ q : Nat, h q = none → ga_G l E M R Z (pc + 2) lv (.ref q :: st) (ga_up h q (ga_z E n (fun _ => 0))) (cells + 1) (slots + n)) : ga_G l E M R Z pc lv (.int (nI n) :: st) h cells slots := by
  intro p e s m args below meth c H locs ls X hc hS hl
  obtain ⟨L, f0, hP, hD, hat, -, hnew⟩ := hc.at
  refine va_newa (atype := .boolean) (ty := .boolean) (N' := n) (a0 := (n, .inl (fun _ => 0))) X.1 X.2.1 (X.2.2.2.2.2.2.2.1 _ hw) rfl X.2.2.2.2.2.2.2.2.2.1.1 hP hD hS (fun q hq => Nat.le_trans X.2.2.2.2.2.2.2.2.1 hq) (fun cA => rfl) (nI_pos (by omega)) (nI_clamp (by omega)) (Nat.le_trans (Nat.mul_le_mul (Nat.le_of_lt hn) (by decide : componentBytes .boolean ≤ 8)) (by decide)) hcs.1 hcs.2 hd (fun q cA H1 hK1 hP1 hD1 hS1 => ?_)
  have e1 := (hK1.2 5 (cA, .boolean) rfl).2
  have e2 := (X.2.2.2.2.2.2.2.2.2.1.1.2 1 _ rfl).2
  have e3 : cA = ga_cZ E := Option.some.inj (e1.symm.trans e2)
  subst e3
  exact k q (hnew q _ H1 hP1 hD1).2 p e s m args below meth c H1 locs ls X (hnew q _ H1 hP1 hD1).1 hS1 hl
theorem gr_newJ {n : Nat} (hd : decode M.2.1 pc = .ok (.newarray .long, 2)) (hw : Cond.arrayClass .long ∈ ga_Gl) (hn : n < 10000) (hcs : cells + 1 ≤ R.cells ∧ slots + n ≤ R.slots)
    (k : ∀ q : Nat, h q = none → ga_G l E M R Z (pc + 2) lv (.ref q :: st) (ga_up h q (ga_j E n (fun _ => 0))) (cells + 1) (slots + n)) : ga_G l E M R Z pc lv (.int (nI n) :: st) h cells slots := by
  intro p e s m args below meth c H locs ls X hc hS hl
  obtain ⟨L, f0, hP, hD, hat, -, hnew⟩ := hc.at
  refine va_newa (atype := .long) (ty := .long) (N' := n) (a0 := (n, .inr (.inl (fun _ => 0)))) X.1 X.2.1 (X.2.2.2.2.2.2.2.1 _ hw) rfl X.2.2.2.2.2.2.2.2.2.1.1 hP hD hS (fun q hq => Nat.le_trans X.2.2.2.2.2.2.2.2.1 hq) (fun cA => rfl) (nI_pos (by omega)) (nI_clamp (by omega)) (Nat.le_trans (Nat.mul_le_mul (Nat.le_of_lt hn) (by decide : componentBytes .long ≤ 8)) (by decide)) hcs.1 hcs.2 hd (fun q cA H1 hK1 hP1 hD1 hS1 => ?_)
  have e1 := (hK1.2 5 (cA, .long) rfl).2
  have e2 := (X.2.2.2.2.2.2.2.2.2.1.1.2 2 _ rfl).2
  have e3 : cA = ga_cJ E := Option.some.inj (e1.symm.trans e2)
  subst e3
  exact k q (hnew q _ H1 hP1 hD1).2 p e s m args below meth c H1 locs ls X (hnew q _ H1 hP1 hD1).1 hS1 hl
theorem gr_newR {index n : Nat} (hd : decode M.2.1 pc = .ok (.anewarray index, 3)) (hw : Cond.classLink M.1.cls index RX6 ∈ ga_Gl) (hn : n < 10000) (hcs : cells + 1 ≤ R.cells ∧ slots + n ≤ R.slots)
    (k : ∀ q : Nat, h q = none → ga_G l E M R Z (pc + 3) lv (.ref q :: st) (ga_up h q (ga_rr E n (fun _ => none))) (cells + 1) (slots + n)) : ga_G l E M R Z pc lv (.int (nI n) :: st) h cells slots := by
  intro p e s m args below meth c H locs ls X hc hS hl
  obtain ⟨L, f0, hP, hD, hat, -, hnew⟩ := hc.at
  refine va_newq (C := RX6) (N' := n) X.1 X.2.1 X.2.2.2.2.2.2.1 (X.2.2.2.2.2.2.2.1 _ hw) X.2.2.2.2.2.2.2.2.2.1.2.2.1 X.2.2.2.2.2.2.2.2.2.1.1 hP hD hS (fun q hq => Nat.le_trans X.2.2.2.2.2.2.2.2.1 hq) (nI_pos (by omega)) (nI_clamp (by omega)) (by omega) hcs.1 hcs.2 hd (fun q cA H1 hK1 hP1 hD1 hS1 => ?_)
  obtain ⟨-, -, -, -, -, e1⟩ := (hK1.2 5 (cA, .object RX6) rfl).2
  obtain ⟨-, -, -, -, -, e2⟩ := (X.2.2.2.2.2.2.2.2.2.1.1.2 4 _ rfl).2
  have e3 : cA = ga_cR E := Option.some.inj (e1.symm.trans e2)
  subst e3
  exact k q (hnew q _ H1 hP1 hD1).2 p e s m args below meth c H1 locs ls X (hnew q _ H1 hP1 hD1).1 hS1 hl
theorem gr_copy {index a0 a n0 n1 n : Nat} {f g0 : Nat → Int32} (hd : decode M.2.1 pc = .ok (.invokestatic index, 3)) (hw : Cond.methodLink M.1.cls index arraycopyName ∈ ga_Gl) (ha0 : h a0 = some (ga_i E n0 f)) (ha : h a = some (ga_i E n1 g0)) (h0 : n ≤ n0) (h1 : n ≤ n1) (hn : n0 < 2 ^ 31) (hn1 : n1 < 2 ^ 31) (hR : 1 ≤ R.frames ∧ 64 ≤ R.locals) (hW : (st.map fun v => v.category).sum ≤ 8)
    (k : ga_G l E M R Z (pc + 3) lv st (ga_up h a (ga_i E n1 (va_cpy f g0 0 0 n))) cells slots) : ga_G l E M R Z pc lv (.int (nI n) :: .int (nI 0) :: .ref a :: .int (nI 0) :: .ref a0 :: st) h cells slots := by
  intro p e s m args below meth c H locs ls X hc hS hl
  obtain ⟨L, f0, hP, hD, hat, hset, -⟩ := hc.at
  obtain ⟨q0, hq0⟩ := hat a0 _ ha0
  obtain ⟨q1, hq1⟩ := hat a _ ha
  have c0 : (nI 0).toNatClampNeg = 0 := nI_clamp (by decide)
  have cn : (nI n).toNatClampNeg = n := nI_clamp (by omega)
  refine va_copyi (rest := st) X.1 X.2.1 (by rw [X.2.2.1]; exact hl.1.symm) X.2.2.2.2.2.2.1 (X.2.2.2.2.2.2.2.1 _ hw) (X.2.2.2.2.2.2.2.1 _ ga_cp.1) (X.2.2.2.2.2.2.2.1 _ ga_cp.2.1) (X.2.2.2.2.2.2.2.1 _ ga_cp.2.2) X.2.2.2.2.2.2.2.2.2.1.1 hP hD hS q0 q1 0 0 hq0 hq1 rfl rfl rfl (nI_pos (by decide)) (nI_pos (by decide)) (nI_pos (by omega)) (by rw [c0, cn]; omega) (by rw [c0, cn]; omega) (fun _ _ => rfl) hR.1 ?_ hd (fun H1 locs1 hP1 hD1 hS1 => ?_)
  · have : nativeFrameWords "java/lang/System" "arraycopy" 5 + 11 ≤ 56 := by decide
    omega
  · rw [c0, cn] at hP1 hD1
    exact k p e s m args below meth c H1 locs1 ls X (hset a _ _ H1 q1 ha hq1 hP1 hD1) hS1 hl
end GS
end
section
/-! the methods, their words -/
abbrev mX8_init : ga_M := (yX8_init, cX8_init, 2, none, [])
theorem ysX8_init : ga_yes mX8_init 1 := ⟨cw_X8_init, wi_X8, by decide +kernel, by decide⟩
abbrev mJ9_min_7cf53 : ga_M := (yJ9_min_7cf53, cJ9_min_7cf53, 2, (some .int), [])
theorem ysJ9_min_7cf53 : ga_yes mJ9_min_7cf53 2 := ⟨cw_J9_min_7cf53, wi_J9, by decide +kernel, by decide⟩
abbrev mJ9_max_7cf53 : ga_M := (yJ9_max_7cf53, cJ9_max_7cf53, 2, (some .int), [])
theorem ysJ9_max_7cf53 : ga_yes mJ9_max_7cf53 2 := ⟨cw_J9_max_7cf53, wi_J9, by decide +kernel, by decide⟩
abbrev mX1_init : ga_M := (yX1_init, cX1_init, 2, none, [])
theorem ysX1_init : ga_yes mX1_init 1 := ⟨cw_X1_init, wi_X1, by decide +kernel, by decide⟩
abbrev mX2_init : ga_M := (yX2_init, cX2_init, 1, none, [])
theorem ysX2_init : ga_yes mX2_init 0 := ⟨cw_X2_init, wi_X2, by decide +kernel, by decide⟩
abbrev mX0_init : ga_M := (yX0_init, cX0_init, 3, none, [])
theorem ysX0_init : ga_yes mX0_init 1 := ⟨cw_X0_init, wi_X0, by decide +kernel, by decide⟩
abbrev mX5_init : ga_M := (yX5_init, cX5_init, 1, none, [])
theorem ysX5_init : ga_yes mX5_init 0 := ⟨cw_X5_init, wi_X5, by decide +kernel, by decide⟩
abbrev mX6_init : ga_M := (yX6_init, cX6_init, 1, none, [])
theorem ysX6_init : ga_yes mX6_init 0 := ⟨cw_X6_init, wi_X6, by decide +kernel, by decide⟩
abbrev mX7_init : ga_M := (yX7_init, cX7_init, 1, none, [])
theorem ysX7_init : ga_yes mX7_init 0 := ⟨cw_X7_init, wi_X7, by decide +kernel, by decide⟩
abbrev mX8_run : ga_M := (yX8_run, cX8_run, 1, (some .int), [])
theorem ysX8_run : ga_yes mX8_run 0 := ⟨cw_X8_run, wi_X8, by decide +kernel, by decide⟩
abbrev mX1_greatestShift : ga_M := (yX1_greatestShift, cX1_greatestShift, 2, (some .int), [])
theorem ysX1_greatestShift : ga_yes mX1_greatestShift 0 := ⟨cw_X1_greatestShift, wi_X1, by decide +kernel, by decide⟩
abbrev mX4_degree : ga_M := (yX4_degree, cX4_degree, 2, (some .int), [])
theorem ysX4_degree : ga_yes mX4_degree 1 := ⟨cw_X4_degree, wi_X4, by decide +kernel, by decide⟩
abbrev mX0_find : ga_M := (yX0_find, cX0_find, 2, none, [])
theorem ysX0_find : ga_yes mX0_find 1 := ⟨cw_X0_find, wi_X0, by decide +kernel, by decide⟩
abbrev mX2_fill : ga_M := (yX2_fill, cX2_fill, 5, none, [])
theorem ysX2_fill : ga_yes mX2_fill 2 := ⟨cw_X2_fill, wi_X2, by decide +kernel, by decide⟩
abbrev mX2_addFactor : ga_M := (yX2_addFactor, cX2_addFactor, 6, none, [])
theorem ysX2_addFactor : ga_yes mX2_addFactor 3 := ⟨cw_X2_addFactor, wi_X2, by decide +kernel, by decide⟩
abbrev mX4_multiplyByLinear : ga_M := (yX4_multiplyByLinear, cX4_multiplyByLinear, 3, none, [])
theorem ysX4_multiplyByLinear : ga_yes mX4_multiplyByLinear 2 := ⟨cw_X4_multiplyByLinear, wi_X4, by decide +kernel, by decide⟩
abbrev mX2_eliminate : ga_M := (yX2_eliminate, cX2_eliminate, 3, none, [])
theorem ysX2_eliminate : ga_yes mX2_eliminate 0 := ⟨cw_X2_eliminate, wi_X2, by decide +kernel, by decide⟩
abbrev mX2_freeLine : ga_M := (yX2_freeLine, cX2_freeLine, 3, (some .int), [])
theorem ysX2_freeLine : ga_yes mX2_freeLine 1 := ⟨cw_X2_freeLine, wi_X2, by decide +kernel, by decide⟩
abbrev mX3_inverse : ga_M := (yX3_inverse, cX3_inverse, 4, (some .int), [])
theorem ysX3_inverse : ga_yes mX3_inverse 1 := ⟨cw_X3_inverse, wi_X3, by decide +kernel, by decide⟩
abbrev mX2_scaleLine : ga_M := (yX2_scaleLine, cX2_scaleLine, 4, none, [])
theorem ysX2_scaleLine : ga_yes mX2_scaleLine 2 := ⟨cw_X2_scaleLine, wi_X2, by decide +kernel, by decide⟩
abbrev mX2_clearColumn : ga_M := (yX2_clearColumn, cX2_clearColumn, 6, none, [])
theorem ysX2_clearColumn : ga_yes mX2_clearColumn 2 := ⟨cw_X2_clearColumn, wi_X2, by decide +kernel, by decide⟩
abbrev mX3_less : ga_M := (yX3_less, cX3_less, 4, (some .int), [])
theorem ysX3_less : ga_yes mX3_less 3 := ⟨cw_X3_less, wi_X3, by decide +kernel, by decide⟩
abbrev mX2_copyRowTo : ga_M := (yX2_copyRowTo, cX2_copyRowTo, 6, none, [])
theorem ysX2_copyRowTo : ga_yes mX2_copyRowTo 1 := ⟨cw_X2_copyRowTo, wi_X2, by decide +kernel, by decide⟩
abbrev mX3_negative : ga_M := (yX3_negative, cX3_negative, 1, (some .int), [])
theorem ysX3_negative : ga_yes mX3_negative 1 := ⟨cw_X3_negative, wi_X3, by decide +kernel, by decide⟩
abbrev mX6_setNumberAt : ga_M := (yX6_setNumberAt, cX6_setNumberAt, 5, none, [])
theorem ysX6_setNumberAt : ga_yes mX6_setNumberAt 3 := ⟨cw_X6_setNumberAt, wi_X6, by decide +kernel, by decide⟩
abbrev mX2_copyParticularTo : ga_M := (yX2_copyParticularTo, cX2_copyParticularTo, 4, (some .boolean), [])
theorem ysX2_copyParticularTo : ga_yes mX2_copyParticularTo 1 := ⟨cw_X2_copyParticularTo, wi_X2, by decide +kernel, by decide⟩
abbrev mX0_findBases : ga_M := (yX0_findBases, cX0_findBases, 4, none, [])
theorem ysX0_findBases : ga_yes mX0_findBases 1 := ⟨cw_X0_findBases, wi_X0, by decide +kernel, by decide⟩
abbrev mX0_collectTopNumbers : ga_M := (yX0_collectTopNumbers, cX0_collectTopNumbers, 5, none, [])
theorem ysX0_collectTopNumbers : ga_yes mX0_collectTopNumbers 1 := ⟨cw_X0_collectTopNumbers, wi_X0, by decide +kernel, by decide⟩
abbrev mX1_greatestDegree : ga_M := (yX1_greatestDegree, cX1_greatestDegree, 3, (some .int), [])
theorem ysX1_greatestDegree : ga_yes mX1_greatestDegree 0 := ⟨cw_X1_greatestDegree, wi_X1, by decide +kernel, by decide⟩
abbrev mX5_find : ga_M := (yX5_find, cX5_find, 4, none, [])
theorem ysX5_find : ga_yes mX5_find 1 := ⟨cw_X5_find, wi_X5, by decide +kernel, by decide⟩
abbrev mX4_makeMonic : ga_M := (yX4_makeMonic, cX4_makeMonic, 4, none, [])
theorem ysX4_makeMonic : ga_yes mX4_makeMonic 1 := ⟨cw_X4_makeMonic, wi_X4, by decide +kernel, by decide⟩
abbrev mX5_keepSimpleRoots : ga_M := (yX5_keepSimpleRoots, cX5_keepSimpleRoots, 1, none, [])
theorem ysX5_keepSimpleRoots : ga_yes mX5_keepSimpleRoots 0 := ⟨cw_X5_keepSimpleRoots, wi_X5, by decide +kernel, by decide⟩
abbrev mX5_raiseLinear : ga_M := (yX5_raiseLinear, cX5_raiseLinear, 5, none, [])
theorem ysX5_raiseLinear : ga_yes mX5_raiseLinear 3 := ⟨cw_X5_raiseLinear, wi_X5, by decide +kernel, by decide⟩
abbrev mX5_squarePower : ga_M := (yX5_squarePower, cX5_squarePower, 5, none, [])
theorem ysX5_squarePower : ga_yes mX5_squarePower 1 := ⟨cw_X5_squarePower, wi_X5, by decide +kernel, by decide⟩
abbrev mX4_reduceBy : ga_M := (yX4_reduceBy, cX4_reduceBy, 7, none, [])
theorem ysX4_reduceBy : ga_yes mX4_reduceBy 2 := ⟨cw_X4_reduceBy, wi_X4, by decide +kernel, by decide⟩
abbrev mX5_keepCommonDivisor : ga_M := (yX5_keepCommonDivisor, cX5_keepCommonDivisor, 6, none, [])
theorem ysX5_keepCommonDivisor : ga_yes mX5_keepCommonDivisor 2 := ⟨cw_X5_keepCommonDivisor, wi_X5, by decide +kernel, by decide⟩
abbrev mX5_splitOffRoot : ga_M := (yX5_splitOffRoot, cX5_splitOffRoot, 3, (some .int), [])
theorem ysX5_splitOffRoot : ga_yes mX5_splitOffRoot 0 := ⟨cw_X5_splitOffRoot, wi_X5, by decide +kernel, by decide⟩
abbrev mX5_insert : ga_M := (yX5_insert, cX5_insert, 3, none, [])
theorem ysX5_insert : ga_yes mX5_insert 1 := ⟨cw_X5_insert, wi_X5, by decide +kernel, by decide⟩
abbrev mX5_divideOut : ga_M := (yX5_divideOut, cX5_divideOut, 5, none, [])
theorem ysX5_divideOut : ga_yes mX5_divideOut 1 := ⟨cw_X5_divideOut, wi_X5, by decide +kernel, by decide⟩
abbrev mX5_at : ga_M := (yX5_at, cX5_at, 2, (some .int), [])
theorem ysX5_at : ga_yes mX5_at 1 := ⟨cw_X5_at, wi_X5, by decide +kernel, by decide⟩
abbrev mX8_start : ga_M := (yX8_start, cX8_start, 3, (some .boolean), [])
theorem ysX8_start : ga_yes mX8_start 1 := ⟨cw_X8_start, wi_X8, by decide +kernel, by decide⟩
abbrev mX3_of : ga_M := (yX3_of, cX3_of, 2, (some .int), [])
theorem ysX3_of : ga_yes mX3_of 1 := ⟨cw_X3_of, wi_X3, by decide +kernel, by decide⟩
abbrev mJ9_floorMod_f86c9 : ga_M := (yJ9_floorMod_f86c9, cJ9_floorMod_f86c9, 6, (some .long), [])
theorem ysJ9_floorMod_f86c9 : ga_yes mJ9_floorMod_f86c9 2 := ⟨cw_J9_floorMod_f86c9, wi_J9, by decide +kernel, by decide⟩
abbrev mX7_addStart : ga_M := (yX7_addStart, cX7_addStart, 2, (some .boolean), [])
theorem ysX7_addStart : ga_yes mX7_addStart 1 := ⟨cw_X7_addStart, wi_X7, by decide +kernel, by decide⟩
abbrev mX8_singular : ga_M := (yX8_singular, cX8_singular, 3, (some .int), [])
theorem ysX8_singular : ga_yes mX8_singular 1 := ⟨cw_X8_singular, wi_X8, by decide +kernel, by decide⟩
abbrev mX8_clear : ga_M := (yX8_clear, cX8_clear, 2, none, [])
theorem ysX8_clear : ga_yes mX8_clear 0 := ⟨cw_X8_clear, wi_X8, by decide +kernel, by decide⟩
abbrev mX1_empty : ga_M := (yX1_empty, cX1_empty, 3, none, [])
theorem ysX1_empty : ga_yes mX1_empty 0 := ⟨cw_X1_empty, wi_X1, by decide +kernel, by decide⟩
abbrev mX7_empty : ga_M := (yX7_empty, cX7_empty, 1, none, [])
theorem ysX7_empty : ga_yes mX7_empty 0 := ⟨cw_X7_empty, wi_X7, by decide +kernel, by decide⟩
abbrev mX8_forgetConclusions : ga_M := (yX8_forgetConclusions, cX8_forgetConclusions, 1, none, [])
theorem ysX8_forgetConclusions : ga_yes mX8_forgetConclusions 0 := ⟨cw_X8_forgetConclusions, wi_X8, by decide +kernel, by decide⟩
abbrev mX7_forgetConclusions : ga_M := (yX7_forgetConclusions, cX7_forgetConclusions, 1, none, [])
theorem ysX7_forgetConclusions : ga_yes mX7_forgetConclusions 0 := ⟨cw_X7_forgetConclusions, wi_X7, by decide +kernel, by decide⟩
abbrev mL_cell : ga_M := (yL_cell, cL_cell, 2, (some .int), [])
theorem ysL_cell : ga_yes mL_cell 2 := ⟨cw_L_cell, wi_L, by decide +kernel, by decide⟩
abbrev mJx00060_init_a7421 : ga_M := (yJx00060_init_a7421, cJx00060_init_a7421, 2, none, [])
theorem ysJx00060_init_a7421 : ga_yes mJx00060_init_a7421 1 := ⟨cw_Jx00060_init_a7421, wi_Jx00060, by decide +kernel, by decide⟩
abbrev mX8_factor : ga_M := (yX8_factor, cX8_factor, 7, (some .boolean), [])
theorem ysX8_factor : ga_yes mX8_factor 4 := ⟨cw_X8_factor, wi_X8, by decide +kernel, by decide⟩
abbrev mX3_quotient : ga_M := (yX3_quotient, cX3_quotient, 4, (some .int), [])
theorem ysX3_quotient : ga_yes mX3_quotient 2 := ⟨cw_X3_quotient, wi_X3, by decide +kernel, by decide⟩
abbrev mX8_change : ga_M := (yX8_change, cX8_change, 4, (some .boolean), [])
theorem ysX8_change : ga_yes mX8_change 3 := ⟨cw_X8_change, wi_X8, by decide +kernel, by decide⟩
abbrev mX8_right : ga_M := (yX8_right, cX8_right, 6, (some .boolean), [])
theorem ysX8_right : ga_yes mX8_right 3 := ⟨cw_X8_right, wi_X8, by decide +kernel, by decide⟩
abbrev mX8_polynomials : ga_M := (yX8_polynomials, cX8_polynomials, 1, (some .int), [])
theorem ysX8_polynomials : ga_yes mX8_polynomials 0 := ⟨cw_X8_polynomials, wi_X8, by decide +kernel, by decide⟩
abbrev mX8_requireAnswers : ga_M := (yX8_requireAnswers, cX8_requireAnswers, 1, none, [])
theorem ysX8_requireAnswers : ga_yes mX8_requireAnswers 0 := ⟨cw_X8_requireAnswers, wi_X8, by decide +kernel, by decide⟩
abbrev mX8_answer : ga_M := (yX8_answer, cX8_answer, 3, (some .int), [])
theorem ysX8_answer : ga_yes mX8_answer 2 := ⟨cw_X8_answer, wi_X8, by decide +kernel, by decide⟩
abbrev mX8_requireAnswerPower : ga_M := (yX8_requireAnswerPower, cX8_requireAnswerPower, 1, none, [])
theorem ysX8_requireAnswerPower : ga_yes mX8_requireAnswerPower 1 := ⟨cw_X8_requireAnswerPower, wi_X8, by decide +kernel, by decide⟩
abbrev mX6_numberAt : ga_M := (yX6_numberAt, cX6_numberAt, 4, (some .int), [])
theorem ysX6_numberAt : ga_yes mX6_numberAt 2 := ⟨cw_X6_numberAt, wi_X6, by decide +kernel, by decide⟩
abbrev mX8_meets : ga_M := (yX8_meets, cX8_meets, 1, (some .boolean), [])
theorem ysX8_meets : ga_yes mX8_meets 0 := ⟨cw_X8_meets, wi_X8, by decide +kernel, by decide⟩
abbrev mX8_powers : ga_M := (yX8_powers, cX8_powers, 1, (some .int), [])
theorem ysX8_powers : ga_yes mX8_powers 0 := ⟨cw_X8_powers, wi_X8, by decide +kernel, by decide⟩
abbrev mX8_base : ga_M := (yX8_base, cX8_base, 2, (some .int), [])
theorem ysX8_base : ga_yes mX8_base 1 := ⟨cw_X8_base, wi_X8, by decide +kernel, by decide⟩
abbrev mX0_hasBase : ga_M := (yX0_hasBase, cX0_hasBase, 2, (some .boolean), [])
theorem ysX0_hasBase : ga_yes mX0_hasBase 1 := ⟨cw_X0_hasBase, wi_X0, by decide +kernel, by decide⟩
abbrev mX8_many : ga_M := (yX8_many, cX8_many, 2, (some .int), [])
theorem ysX8_many : ga_yes mX8_many 1 := ⟨cw_X8_many, wi_X8, by decide +kernel, by decide⟩
abbrev mX8_times : ga_M := (yX8_times, cX8_times, 4, (some .int), [])
theorem ysX8_times : ga_yes mX8_times 3 := ⟨cw_X8_times, wi_X8, by decide +kernel, by decide⟩
abbrev mX8_value : ga_M := (yX8_value, cX8_value, 2, (some .int), [])
theorem ysX8_value : ga_yes mX8_value 1 := ⟨cw_X8_value, wi_X8, by decide +kernel, by decide⟩
abbrev mX7_at : ga_M := (yX7_at, cX7_at, 7, (some .int), [])
theorem ysX7_at : ga_yes mX7_at 2 := ⟨cw_X7_at, wi_X7, by decide +kernel, by decide⟩
abbrev mX4_valueAt : ga_M := (yX4_valueAt, cX4_valueAt, 4, (some .int), [])
theorem ysX4_valueAt : ga_yes mX4_valueAt 2 := ⟨cw_X4_valueAt, wi_X4, by decide +kernel, by decide⟩
abbrev mX7_demand : ga_M := (yX7_demand, cX7_demand, 7, (some .int), [])
theorem ysX7_demand : ga_yes mX7_demand 3 := ⟨cw_X7_demand, wi_X7, by decide +kernel, by decide⟩
abbrev mX8_end : ga_M := (yX8_end, cX8_end, 2, (some .int), [])
theorem ysX8_end : ga_yes mX8_end 1 := ⟨cw_X8_end, wi_X8, by decide +kernel, by decide⟩
abbrev mX1_leastShift : ga_M := (yX1_leastShift, cX1_leastShift, 2, (some .int), [])
theorem ysX1_leastShift : ga_yes mX1_leastShift 0 := ⟨cw_X1_leastShift, wi_X1, by decide +kernel, by decide⟩
abbrev mX8_rest : ga_M := (yX8_rest, cX8_rest, 2, (some .int), [])
theorem ysX8_rest : ga_yes mX8_rest 1 := ⟨cw_X8_rest, wi_X8, by decide +kernel, by decide⟩
abbrev mX2_leftOver : ga_M := (yX2_leftOver, cX2_leftOver, 5, (some .int), [])
theorem ysX2_leftOver : ga_yes mX2_leftOver 2 := ⟨cw_X2_leftOver, wi_X2, by decide +kernel, by decide⟩
abbrev mX8_put : ga_M := (yX8_put, cX8_put, 5, (some .boolean), [])
theorem ysX8_put : ga_yes mX8_put 2 := ⟨cw_X8_put, wi_X8, by decide +kernel, by decide⟩
abbrev mX9_init : ga_M := (yX9_init, cX9_init, 2, none, [])
theorem ysX9_init : ga_yes mX9_init 1 := ⟨cw_X9_init, wi_X9, by decide +kernel, by decide⟩
abbrev mX9_thrown : ga_M := (yX9_thrown, cX9_thrown, 1, (some .int), [])
theorem ysX9_thrown : ga_yes mX9_thrown 0 := ⟨cw_X9_thrown, wi_X9, by decide +kernel, by decide⟩
abbrev mX9_factor : ga_M := (yX9_factor, cX9_factor, 9, (some .boolean), [])
theorem ysX9_factor : ga_yes mX9_factor 4 := ⟨cw_X9_factor, wi_X9, by decide +kernel, by decide⟩
abbrev mX9_modulo : ga_M := (yX9_modulo, cX9_modulo, 4, (some .int), [])
theorem ysX9_modulo : ga_yes mX9_modulo 1 := ⟨cw_X9_modulo, wi_X9, by decide +kernel, by decide⟩
abbrev mX9_inverse : ga_M := (yX9_inverse, cX9_inverse, 6, (some .int), [])
theorem ysX9_inverse : ga_yes mX9_inverse 1 := ⟨cw_X9_inverse, wi_X9, by decide +kernel, by decide⟩
abbrev mX9_right : ga_M := (yX9_right, cX9_right, 8, (some .boolean), [])
theorem ysX9_right : ga_yes mX9_right 3 := ⟨cw_X9_right, wi_X9, by decide +kernel, by decide⟩
abbrev mX9_run : ga_M := (yX9_run, cX9_run, 7, (some .int), [])
theorem ysX9_run : ga_yes mX9_run 0 := ⟨cw_X9_run, wi_X9, by decide +kernel, by decide⟩
abbrev mX9_greatest : ga_M := (yX9_greatest, cX9_greatest, 3, (some .int), [])
theorem ysX9_greatest : ga_yes mX9_greatest 0 := ⟨cw_X9_greatest, wi_X9, by decide +kernel, by decide⟩
abbrev mX9_fill : ga_M := (yX9_fill, cX9_fill, 5, none, [])
theorem ysX9_fill : ga_yes mX9_fill 1 := ⟨cw_X9_fill, wi_X9, by decide +kernel, by decide⟩
abbrev mX9_apply : ga_M := (yX9_apply, cX9_apply, 10, none, [])
theorem ysX9_apply : ga_yes mX9_apply 2 := ⟨cw_X9_apply, wi_X9, by decide +kernel, by decide⟩
abbrev mX9_shift : ga_M := (yX9_shift, cX9_shift, 5, none, [])
theorem ysX9_shift : ga_yes mX9_shift 2 := ⟨cw_X9_shift, wi_X9, by decide +kernel, by decide⟩
abbrev mX9_power : ga_M := (yX9_power, cX9_power, 5, (some .int), [])
theorem ysX9_power : ga_yes mX9_power 2 := ⟨cw_X9_power, wi_X9, by decide +kernel, by decide⟩
abbrev mX9_clears : ga_M := (yX9_clears, cX9_clears, 10, (some .int), [])
theorem ysX9_clears : ga_yes mX9_clears 0 := ⟨cw_X9_clears, wi_X9, by decide +kernel, by decide⟩
abbrev mX9_answers : ga_M := (yX9_answers, cX9_answers, 7, (some .int), [])
theorem ysX9_answers : ga_yes mX9_answers 2 := ⟨cw_X9_answers, wi_X9, by decide +kernel, by decide⟩
abbrev mX9_highest : ga_M := (yX9_highest, cX9_highest, 3, (some .int), [])
theorem ysX9_highest : ga_yes mX9_highest 0 := ⟨cw_X9_highest, wi_X9, by decide +kernel, by decide⟩
abbrev mX9_polynomials : ga_M := (yX9_polynomials, cX9_polynomials, 1, (some .int), [])
theorem ysX9_polynomials : ga_yes mX9_polynomials 0 := ⟨cw_X9_polynomials, wi_X9, by decide +kernel, by decide⟩
abbrev mX9_unknown : ga_M := (yX9_unknown, cX9_unknown, 1, (some .boolean), [])
theorem ysX9_unknown : ga_yes mX9_unknown 0 := ⟨cw_X9_unknown, wi_X9, by decide +kernel, by decide⟩
abbrev mX9_answer : ga_M := (yX9_answer, cX9_answer, 3, (some .int), [])
theorem ysX9_answer : ga_yes mX9_answer 2 := ⟨cw_X9_answer, wi_X9, by decide +kernel, by decide⟩
abbrev mX9_meets : ga_M := (yX9_meets, cX9_meets, 1, (some .boolean), [])
theorem ysX9_meets : ga_yes mX9_meets 0 := ⟨cw_X9_meets, wi_X9, by decide +kernel, by decide⟩
abbrev mX9_powers : ga_M := (yX9_powers, cX9_powers, 1, (some .int), [])
theorem ysX9_powers : ga_yes mX9_powers 0 := ⟨cw_X9_powers, wi_X9, by decide +kernel, by decide⟩
abbrev mX9_base : ga_M := (yX9_base, cX9_base, 2, (some .int), [])
theorem ysX9_base : ga_yes mX9_base 1 := ⟨cw_X9_base, wi_X9, by decide +kernel, by decide⟩
abbrev mX9_many : ga_M := (yX9_many, cX9_many, 2, (some .int), [])
theorem ysX9_many : ga_yes mX9_many 1 := ⟨cw_X9_many, wi_X9, by decide +kernel, by decide⟩
abbrev mX9_times : ga_M := (yX9_times, cX9_times, 5, (some .int), [])
theorem ysX9_times : ga_yes mX9_times 3 := ⟨cw_X9_times, wi_X9, by decide +kernel, by decide⟩
abbrev mX9_start : ga_M := (yX9_start, cX9_start, 3, (some .boolean), [])
theorem ysX9_start : ga_yes mX9_start 1 := ⟨cw_X9_start, wi_X9, by decide +kernel, by decide⟩
abbrev mX9_value : ga_M := (yX9_value, cX9_value, 9, (some .int), [])
theorem ysX9_value : ga_yes mX9_value 1 := ⟨cw_X9_value, wi_X9, by decide +kernel, by decide⟩
abbrev mX9_at : ga_M := (yX9_at, cX9_at, 8, (some .int), [])
theorem ysX9_at : ga_yes mX9_at 4 := ⟨cw_X9_at, wi_X9, by decide +kernel, by decide⟩
abbrev mX9_singular : ga_M := (yX9_singular, cX9_singular, 5, (some .int), [])
theorem ysX9_singular : ga_yes mX9_singular 1 := ⟨cw_X9_singular, wi_X9, by decide +kernel, by decide⟩
abbrev mX9_end : ga_M := (yX9_end, cX9_end, 3, (some .int), [])
theorem ysX9_end : ga_yes mX9_end 1 := ⟨cw_X9_end, wi_X9, by decide +kernel, by decide⟩
abbrev mX9_rest : ga_M := (yX9_rest, cX9_rest, 2, (some .int), [])
theorem ysX9_rest : ga_yes mX9_rest 1 := ⟨cw_X9_rest, wi_X9, by decide +kernel, by decide⟩
abbrev mX9_put : ga_M := (yX9_put, cX9_put, 5, (some .boolean), [])
theorem ysX9_put : ga_yes mX9_put 2 := ⟨cw_X9_put, wi_X9, by decide +kernel, by decide⟩
abbrev mX9_clear : ga_M := (yX9_clear, cX9_clear, 2, none, [])
theorem ysX9_clear : ga_yes mX9_clear 0 := ⟨cw_X9_clear, wi_X9, by decide +kernel, by decide⟩
theorem cls_X0 : ga_cls 2 RX0 TX0 10 tyX0 := ⟨rfl, fun w hw => ga_Gl_of (List.mem_append_right _ ((by decide +kernel : ∀ w ∈ u_ws RX0 TX0 10, w ∈ tables_1) w hw)) ((by decide +kernel : ∀ w ∈ u_ws RX0 TX0 10, goodWord w = true) w hw), tyX0_ok, nmX0⟩
theorem cls_X1 : ga_cls 3 RX1 TX1 3 tyX1 := ⟨rfl, fun w hw => ga_Gl_of (List.mem_append_right _ ((by decide +kernel : ∀ w ∈ u_ws RX1 TX1 3, w ∈ tables_1) w hw)) ((by decide +kernel : ∀ w ∈ u_ws RX1 TX1 3, goodWord w = true) w hw), tyX1_ok, nmX1⟩
theorem cls_X2 : ga_cls 4 RX2 TX2 4 tyX2 := ⟨rfl, fun w hw => ga_Gl_of (List.mem_append_right _ ((by decide +kernel : ∀ w ∈ u_ws RX2 TX2 4, w ∈ tables_1) w hw)) ((by decide +kernel : ∀ w ∈ u_ws RX2 TX2 4, goodWord w = true) w hw), tyX2_ok, nmX2⟩
theorem cls_X5 : ga_cls 5 RX5 TX5 7 tyX5 := ⟨rfl, fun w hw => ga_Gl_of (List.mem_append_right _ ((by decide +kernel : ∀ w ∈ u_ws RX5 TX5 7, w ∈ tables_1) w hw)) ((by decide +kernel : ∀ w ∈ u_ws RX5 TX5 7, goodWord w = true) w hw), tyX5_ok, nmX5⟩
theorem cls_X6 : ga_cls 6 RX6 TX6 2 tyX6 := ⟨rfl, fun w hw => ga_Gl_of (List.mem_append_right _ ((by decide +kernel : ∀ w ∈ u_ws RX6 TX6 2, w ∈ tables_1) w hw)) ((by decide +kernel : ∀ w ∈ u_ws RX6 TX6 2, goodWord w = true) w hw), tyX6_ok, nmX6⟩
theorem cls_X7 : ga_cls 7 RX7 TX7 3 tyX7 := ⟨rfl, fun w hw => ga_Gl_of (List.mem_append_right _ ((by decide +kernel : ∀ w ∈ u_ws RX7 TX7 3, w ∈ tables_1) w hw)) ((by decide +kernel : ∀ w ∈ u_ws RX7 TX7 3, goodWord w = true) w hw), tyX7_ok, nmX7⟩
theorem cls_X8 : ga_cls 8 RX8 TX8 7 tyX8 := ⟨rfl, fun w hw => ga_Gl_of (List.mem_append_right _ ((by decide +kernel : ∀ w ∈ u_ws RX8 TX8 7, w ∈ tables_1) w hw)) ((by decide +kernel : ∀ w ∈ u_ws RX8 TX8 7, goodWord w = true) w hw), tyX8_ok, nmX8⟩
theorem cls_X9 : ga_cls 9 RX9 TX9 22 tyX9 := ⟨rfl, fun w hw => ga_Gl_of (List.mem_append_right _ ((by decide +kernel : ∀ w ∈ u_ws RX9 TX9 22, w ∈ tables_1) w hw)) ((by decide +kernel : ∀ w ∈ u_ws RX9 TX9 22, goodWord w = true) w hw), tyX9_ok, nmX9⟩
end
section
/-! The field of 32003 numbers as the programs hold it, and Numbers -/
abbrev zp : Type := Fin 32003
def zo (m : Nat) : zp := Fin.ofNat 32003 m
theorem zo_val (m : Nat) : (zo m).val = m % 32003 := rfl
theorem zo_self (x : zp) : zo x.val = x := Fin.ext (Nat.mod_eq_of_lt x.isLt)
theorem zo_add (a b : Nat) : zo (a + b) = zo a + zo b := Fin.ext (by rw [Fin.val_add]; simp only [zo_val]; omega)
theorem zo_mul (a b : Nat) : zo (a * b) = zo a * zo b := Fin.ext (by rw [Fin.val_mul]; simp only [zo_val]; exact Nat.mul_mod a b 32003)
theorem zm_mul (a b : zp) : a.val * b.val % 32003 = (a * b).val := (Fin.val_mul a b).symm
theorem zm_add (a b : zp) : (a.val + b.val) % 32003 = (a + b).val := (Fin.val_add a b).symm
theorem zl (x : zp) : x.val < 32003 := x.isLt
theorem zmul_lt (a b : zp) : a.val * b.val < 2 ^ 31 - 40000 := Nat.lt_of_le_of_lt (Nat.mul_le_mul (Nat.le_of_lt_succ (by have := zl a; omega : a.val < 32003)) (Nat.le_of_lt_succ (by have := zl b; omega : b.val < 32003))) (by decide)
def zpow (x : zp) : Nat → zp
  | 0 => 1
  | n + 1 => zpow x n * x
def zinv (x : zp) : zp := zpow x 32001
theorem zpow_mul (x y : zp) (n : Nat) : zpow (x * y) n = zpow x n * zpow y n := by
  induction n with
  | zero => rfl
  | succ n ih => simp only [zpow]; rw [ih]; grind
theorem zpow_add (x : zp) (a b : Nat) : zpow x (a + b) = zpow x a * zpow x b := by
  induction b with
  | zero => show zpow x a = zpow x a * 1; grind
  | succ b ih => show zpow x (a + b) * x = zpow x a * (zpow x b * x); rw [ih]; grind
theorem zpow_sq (x : zp) (n : Nat) : zpow (x * x) n = zpow x (2 * n) := by
  rw [zpow_mul, Nat.two_mul, zpow_add]
/-- an array of numbers -/
abbrev ga_f (E : ga_E) (n : Nat) (v : Nat → zp) : va_E := ga_i E n (fun j => nI (v j).val)
theorem upd_f (v : Nat → zp) (k : Nat) (x : zp) : upd (fun j => nI (v j).val) k (nI x.val) = fun j => nI (va_up v k x j).val := by
  funext j; unfold upd va_up; by_cases e : j = k <;> simp [e]
section NUM
variable {l : Launch} {E : ga_E} {M : ga_M} {R : Room} {Z : List Frame → Array Value → State → State → Prop} {pc : Nat} {lv : List (Option Value)} {st : List Value} {h : ga_H} {cells slots : Nat}
theorem gr_ialoadF {a j n : Nat} {v : Nat → zp} (hd : decode M.2.1 pc = .ok (.iaload, 1)) (ha : h a = some (ga_f E n v)) (hj : j < n) (hn : n < 2 ^ 31) (k : ga_G l E M R Z (pc + 1) lv (.int (nI (v j).val) :: st) h cells slots) : ga_G l E M R Z pc lv (.int (nI j) :: .ref a :: st) h cells slots := gr_iaload hd ha hj hn k
theorem gr_iastoreF {a j n : Nat} {v : Nat → zp} {x : zp} (hd : decode M.2.1 pc = .ok (.iastore, 1)) (ha : h a = some (ga_f E n v)) (hj : j < n) (hn : n < 2 ^ 31) (k : ga_G l E M R Z (pc + 1) lv st (ga_up h a (ga_f E n (va_up v j x))) cells slots) : ga_G l E M R Z pc lv (.int (nI x.val) :: .int (nI j) :: .ref a :: st) h cells slots := gr_iastore hd ha hj hn (by rw [upd_f]; exact k)
/-- a product modulo 32003: imul, sipush, irem -/
theorem gr_mulP {a b : zp} (d1 : decode M.2.1 pc = .ok (.imul, 1)) (d2 : decode M.2.1 (pc + 1) = .ok (.sipush 32003, 3)) (d3 : decode M.2.1 (pc + 1 + 3) = .ok (.irem, 1)) (k : ga_G l E M R Z (pc + 1 + 3 + 1) lv (.int (nI (a * b).val) :: st) h cells slots) : ga_G l E M R Z pc lv (.int (nI b.val) :: .int (nI a.val) :: st) h cells slots := by
  refine gr_imulN d1 (gr_sipush (v := nI 32003) d2 (by decide) (gr_iremN d3 ?_ (by decide) (by decide) ?_))
  · have := zmul_lt a b; omega
  · rw [zm_mul]; exact k
theorem gr_dn {k : Nat} (i : Nat) (x : Int32) (e : x = nI k - nI 1) : x = nI k - nI 1 := e
end NUM
theorem dn_neg {k : Nat} (hk : k < 2 ^ 31) : nI k - nI 1 < 0 ↔ k = 0 := by
  constructor
  · intro h
    by_cases e : k = 0
    · exact e
    · exfalso
      rw [pk_sub (by omega)] at h
      exact nI_pos (by omega) h
  · rintro rfl; decide
theorem dn_step (j : Nat) : nI j + Int32.ofInt (-1) = nI j - nI 1 := by
  rw [Int32.sub_eq_add_neg]; rfl
theorem dn_top (j : Nat) : nI (j + 1) - nI 1 = nI j := nI_pred j

theorem zneg {x : zp} (h : x.val ≠ 0) : (-x).val = 32003 - x.val := by
  have := zl x
  rw [Fin.val_neg']
  exact Nat.mod_eq_of_lt (by omega)

set_option maxHeartbeats 4000000 in
set_option maxRecDepth 100000 in
theorem c_negative (l : Launch) (E : ga_E) (d : Nat) (h : ga_H) (x : zp) : ga_Ok l E d mX3_negative [.int (nI x.val)] h 0 0 (fun r h' => h' = h ∧ r = some (.int (nI (-x).val))) := by
  refine ga_Ok.of 0 _ (by decide) rfl (Nat.le_of_ble_eq_true rfl) rfl ?_
  have hx0 := zl x
  refine gr_iload_n dX3_negative_0 rfl ?_
  refine gr_ifneN 8 dX3_negative_1 (by decide) (by omega) (fun c_1 => ?_) (fun c_1 => ?_)
  · have hx := zl x
    refine gr_sipush (v := nI 32003) dX3_negative_8 (by decide) ?_
    refine gr_iload_n dX3_negative_11 rfl ?_
    refine gr_isubN dX3_negative_12 (by omega) ?_
    exact gr_ireturn dX3_negative_13 rfl (Nat.le_refl _) (Nat.le_refl _) ⟨rfl, by rw [← zneg c_1]⟩
  · refine gr_iconst (v := nI 0) dX3_negative_4 rfl ?_
    refine gr_goto 13 dX3_negative_5 (by decide) ?_
    exact gr_ireturn dX3_negative_13 rfl (Nat.le_refl _) (Nat.le_refl _) ⟨rfl, by rw [show x = 0 from Fin.ext c_1]; rfl⟩

theorem zsub_val (x y : zp) : (x - y).val = if y.val ≤ x.val then x.val - y.val else x.val + 32003 - y.val := by
  have := zl x
  have := zl y
  rw [Fin.val_sub]
  split
  · rw [show 32003 - y.val + x.val = 32003 + (x.val - y.val) by omega, Nat.add_mod_left]
    exact Nat.mod_eq_of_lt (by omega)
  · exact (Nat.mod_eq_of_lt (by omega)).trans (by omega)
theorem zdiff_ge {x y : zp} : (0 : Int32) ≤ nI x.val - nI y.val ↔ y.val ≤ x.val := by
  have := zl x
  have := zl y
  rw [Int32.le_iff_toInt_le, pk_sub_toInt (by omega) (by omega)]
  show (0 : Int) ≤ _ ↔ _
  omega
theorem zless_p {x y : zp} (h : (0 : Int32) ≤ nI x.val - nI y.val) : nI x.val - nI y.val = nI (x - y).val := by
  have h := zdiff_ge.mp h
  rw [zsub_val, if_pos h, pk_sub h]
theorem zless_n {x y : zp} (h : ¬ (0 : Int32) ≤ nI x.val - nI y.val) : nI x.val - nI y.val + nI 32003 = nI (x - y).val := by
  have h := fun z => h (zdiff_ge.mpr z)
  have := zl y
  rw [zsub_val, if_neg h, ← pk_sub (by omega), ← nI_add, Int32.sub_eq_add_neg, Int32.sub_eq_add_neg, Int32.add_assoc, Int32.add_comm (-nI y.val), ← Int32.add_assoc]

set_option maxHeartbeats 4000000 in
set_option maxRecDepth 100000 in
theorem c_less (l : Launch) (E : ga_E) (d : Nat) (h : ga_H) (x a b : zp) : ga_Ok l E d mX3_less [.int (nI x.val), .int (nI a.val), .int (nI b.val)] h 0 0 (fun r h' => h' = h ∧ r = some (.int (nI (x - a * b).val))) := by
  refine ga_Ok.of 1 _ (by decide) rfl (Nat.le_of_ble_eq_true rfl) rfl ?_
  refine gr_iload_n dX3_less_0 rfl ?_
  refine gr_iload_n dX3_less_1 rfl ?_
  refine gr_iload_n dX3_less_2 rfl ?_
  refine gr_mulP dX3_less_3 dX3_less_4 dX3_less_7 ?_
  refine gr_isub dX3_less_8 ?_
  refine gr_istore_n dX3_less_9 (by decide) rfl ?_
  refine gr_iload_n dX3_less_10 rfl ?_
  refine gr_ifge 22 dX3_less_11 (by decide) (fun c_11 => ?_) (fun c_11 => ?_)
  · refine gr_iload_n dX3_less_22 rfl ?_
    exact gr_ireturn dX3_less_23 rfl (Nat.le_refl _) (Nat.le_refl _) ⟨rfl, by rw [zless_p c_11]⟩
  · refine gr_iload_n dX3_less_14 rfl ?_
    refine gr_sipush (v := nI 32003) dX3_less_15 (by decide) ?_
    refine gr_iadd dX3_less_18 ?_
    refine gr_goto 23 dX3_less_19 (by decide) ?_
    exact gr_ireturn dX3_less_23 rfl (Nat.le_refl _) (Nat.le_refl _) ⟨rfl, by rw [zless_n c_11]⟩

theorem zpow_even (r q : zp) (e : Nat) (h : e % 2 = 0) : r * zpow (q * q) (e / 2 ^ 1) = r * zpow q e := by
  rw [zpow_sq]; congr 2; omega
theorem zpow_odd (r q : zp) (e : Nat) (h : e % 2 = 1) : r * q * zpow (q * q) (e / 2 ^ 1) = r * zpow q e := by
  rw [zpow_sq]
  have e1 : e = 2 * (e / 2 ^ 1) + 1 := by omega
  generalize 2 * (e / 2 ^ 1) = k at e1
  subst e1
  show r * q * zpow q k = r * (zpow q k * q)
  grind

set_option maxHeartbeats 4000000 in
set_option maxRecDepth 100000 in
theorem c_inverse_loop (l : Launch) (E : ga_E) (d : Nat) (h : ga_H) (x : zp) (n0 : Int32) : ∀ (e : Nat) (r q : zp), e < 32002 → r * zpow q e = zinv x → ga_G l E mX3_inverse (ga_Rm d 0 0) (ga_Z E (fun r h' => h' = h ∧ r = some (.int (nI (zinv x).val))) 0 0) 8 [some (.int n0), some (.int (nI r.val)), some (.int (nI q.val)), some (.int (nI e))] [] h 0 0 := by
  intro e
  induction e using Nat.strongRecOn with
  | _ e ih =>
    intro r q he hp
    refine gr_iload_n dX3_inverse_8 rfl ?_
    refine gr_ifleN 42 dX3_inverse_9 (by decide) (by omega) (fun c_9 => ?_) (fun c_9 => ?_)
    · refine gr_iload_n dX3_inverse_42 rfl ?_
      exact gr_ireturn dX3_inverse_43 rfl (Nat.le_refl _) (Nat.le_refl _) ⟨rfl, by subst c_9; rw [← hp, show zpow q 0 = 1 from rfl, Fin.mul_one]⟩
    · refine gr_iload_n dX3_inverse_12 rfl ?_
      refine gr_iconst (v := nI 1) dX3_inverse_13 rfl ?_
      refine gr_iand dX3_inverse_14 (gr_top (congrArg Value.int (pk_andN (n := e) (by omega) 1 (by decide))) ?_)
      refine gr_iconst (v := nI 1) dX3_inverse_15 rfl ?_
      refine gr_icmpneN 27 dX3_inverse_16 (by decide) (by omega) (by omega) (fun c_16 => ?_) (fun c_16 => ?_)
      · refine gr_iload_n dX3_inverse_27 rfl ?_
        refine gr_iload_n dX3_inverse_28 rfl ?_
        refine gr_mulP dX3_inverse_29 dX3_inverse_30 dX3_inverse_33 ?_
        refine gr_istore_n dX3_inverse_34 (by decide) rfl ?_
        refine gr_iload_n dX3_inverse_35 rfl ?_
        refine gr_iconst (v := nI 1) dX3_inverse_36 rfl ?_
        refine gr_ishr dX3_inverse_37 (gr_top (congrArg Value.int (pk_shrN (n := e) (by omega) _ 1 (by decide))) ?_)
        refine gr_istore_n dX3_inverse_38 (by decide) rfl ?_
        refine gr_goto 8 dX3_inverse_39 (by decide) ?_
        refine ih (e / 2 ^ 1) (by omega) _ _ (by omega) ?_
        rw [← hp]
        exact zpow_even _ _ e (by omega)
      · refine gr_iload_n dX3_inverse_19 rfl ?_
        refine gr_iload_n dX3_inverse_20 rfl ?_
        refine gr_mulP dX3_inverse_21 dX3_inverse_22 dX3_inverse_25 ?_
        refine gr_istore_n dX3_inverse_26 (by decide) rfl ?_
        refine gr_iload_n dX3_inverse_27 rfl ?_
        refine gr_iload_n dX3_inverse_28 rfl ?_
        refine gr_mulP dX3_inverse_29 dX3_inverse_30 dX3_inverse_33 ?_
        refine gr_istore_n dX3_inverse_34 (by decide) rfl ?_
        refine gr_iload_n dX3_inverse_35 rfl ?_
        refine gr_iconst (v := nI 1) dX3_inverse_36 rfl ?_
        refine gr_ishr dX3_inverse_37 (gr_top (congrArg Value.int (pk_shrN (n := e) (by omega) _ 1 (by decide))) ?_)
        refine gr_istore_n dX3_inverse_38 (by decide) rfl ?_
        refine gr_goto 8 dX3_inverse_39 (by decide) ?_
        refine ih (e / 2 ^ 1) (by omega) _ _ (by omega) ?_
        rw [← hp]
        exact zpow_odd _ _ e (by omega)

set_option maxHeartbeats 4000000 in
set_option maxRecDepth 100000 in
theorem c_inverse (l : Launch) (E : ga_E) (d : Nat) (h : ga_H) (x : zp) : ga_Ok l E d mX3_inverse [.int (nI x.val)] h 0 0 (fun r h' => h' = h ∧ r = some (.int (nI (zinv x).val))) := by
  refine ga_Ok.of 3 _ (by decide) rfl (Nat.le_of_ble_eq_true rfl) rfl ?_
  refine gr_iconst (v := nI (1 : zp).val) dX3_inverse_0 rfl ?_
  refine gr_istore_n dX3_inverse_1 (by decide) rfl ?_
  refine gr_iload_n dX3_inverse_2 rfl ?_
  refine gr_istore_n dX3_inverse_3 (by decide) rfl ?_
  refine gr_sipush (v := nI 32001) dX3_inverse_4 (by decide) ?_
  refine gr_istore_n dX3_inverse_7 (by decide) rfl ?_
  exact c_inverse_loop l E d h x _ 32001 1 x (by decide) (by show 1 * zinv x = zinv x; grind)
end
section
/-! Polynomials: rows of numbers -/
/-- one more than the degree of the first n numbers; 0 if all are 0 -/
def pdeg (v : Nat → zp) : Nat → Nat
  | 0 => 0
  | n + 1 => if v n = 0 then pdeg v n else n + 1
theorem pdeg_le (v : Nat → zp) : ∀ n, pdeg v n ≤ n
  | 0 => Nat.le_refl _
  | n + 1 => by
    unfold pdeg
    have := pdeg_le v n
    split <;> omega
/-- Horner's value: the numbers below k onto acc -/
def phor (v : Nat → zp) (x : zp) : Nat → zp → zp
  | 0, acc => acc
  | k + 1, acc => phor v x k (acc * x + v k)
def pmon (v : Nat → zp) (n : Nat) : Nat → zp := fun j => if j < pdeg v n then v j * zinv (v (pdeg v n - 1)) else v j
def pmul (v : Nat → zp) (n : Nat) (c : zp) : Nat → zp := fun j => if j < n then (if j = 0 then v 0 * c else v j * c + v (j - 1)) else v j
/-- one step of a division by w, of k numbers: at p the number is taken off -/
def pstep (v w : Nat → zp) (k p : Nat) : Nat → zp := fun j => if p + 1 ≤ j + k ∧ j ≤ p then v j - v p * w (j + k - (p + 1)) else v j
def prd (w : Nat → zp) (k : Nat) : Nat → (Nat → zp) → (Nat → zp)
  | 0, v => v
  | p + 1, v => if p + 1 < k then v else prd w k p (pstep v w k p)
section PO
variable {l : Launch} {E : ga_E} {M : ga_M} {R : Room} {Z : List Frame → Array Value → State → State → Prop} {pc : Nat} {lv : List (Option Value)} {st : List Value} {h : ga_H} {cells slots : Nat}
theorem gr_ialoadU {a j n : Nat} {v : Nat → zp} (hd : decode M.2.1 pc = .ok (.iaload, 1)) (hj : j < n) (hn : n < 2 ^ 31) (k : ga_G l E M R Z (pc + 1) lv (.int (nI (v j).val) :: st) (ga_up h a (ga_f E n v)) cells slots) : ga_G l E M R Z pc lv (.int (nI j) :: .ref a :: st) (ga_up h a (ga_f E n v)) cells slots := gr_iaload hd ga_up_eq hj hn k
theorem gr_iastoreU {a j n : Nat} {v : Nat → zp} {x : zp} (hd : decode M.2.1 pc = .ok (.iastore, 1)) (hj : j < n) (hn : n < 2 ^ 31) (k : ga_G l E M R Z (pc + 1) lv st (ga_up h a (ga_f E n (va_up v j x))) cells slots) : ga_G l E M R Z pc lv (.int (nI x.val) :: .int (nI j) :: .ref a :: st) (ga_up h a (ga_f E n v)) cells slots := gr_iastoreF hd ga_up_eq hj hn (by rw [ga_up_up]; exact k)
/-- a sum of a product and a number modulo 32003, its numbers as they are -/
theorem gr_remP {m : Nat} {x : zp} (d2 : decode M.2.1 pc = .ok (.sipush 32003, 3)) (d3 : decode M.2.1 (pc + 3) = .ok (.irem, 1)) (hm : m < 2 ^ 31) (hx : zo m = x) (k : ga_G l E M R Z (pc + 3 + 1) lv (.int (nI x.val) :: st) h cells slots) : ga_G l E M R Z pc lv (.int (nI m) :: st) h cells slots := by
  subst hx
  exact gr_sipush (v := nI 32003) d2 (by decide) (gr_iremN d3 hm (by decide) (by decide) k)
end PO

set_option maxHeartbeats 4000000 in
set_option maxRecDepth 100000 in
theorem c_degree_loop (l : Launch) (E : ga_E) (d : Nat) (h : ga_H) (a n : Nat) (v : Nat → zp) (ha : h a = some (ga_f E n v)) (hn : n < 2 ^ 31) : ∀ k : Nat, k ≤ n → ga_G l E mX4_degree (ga_Rm d 0 0) (ga_Z E (fun r h' => h' = h ∧ r = some (.int (nI (pdeg v k) - nI 1))) 0 0) 5 [some (.ref a), some (.int (nI k - nI 1))] [] h 0 0 := by
  intro k
  induction k with
  | zero =>
    intro _
    refine gr_iload_n dX4_degree_5 rfl ?_
    refine gr_iflt 23 dX4_degree_6 (by decide) (fun _ => ?_) (fun c => absurd ((dn_neg (by decide)).mpr rfl) c)
    refine gr_iconst (v := -1) dX4_degree_23 (by decide) ?_
    exact gr_ireturn dX4_degree_24 rfl (Nat.le_refl _) (Nat.le_refl _) ⟨rfl, rfl⟩
  | succ k ih =>
    intro hk
    rw [dn_top]
    refine gr_iload_n dX4_degree_5 rfl ?_
    refine gr_ifltN dX4_degree_6 23 (by decide) (by omega) ?_
    refine gr_aload_n dX4_degree_9 rfl ?_
    refine gr_iload_n dX4_degree_10 rfl ?_
    refine gr_ialoadF dX4_degree_11 ha (by omega) hn ?_
    refine gr_ifeqN 17 dX4_degree_12 (by decide) (by have := zl (v k); omega) (fun c_12 => ?_) (fun c_12 => ?_)
    · refine gr_iinc (v := nI k - nI 1) dX4_degree_17 rfl (dn_step k) (by decide) rfl ?_
      refine gr_goto 5 dX4_degree_20 (by decide) ?_
      have e1 : pdeg v (k + 1) = pdeg v k := if_pos (Fin.ext c_12)
      rw [e1]
      exact ih (by omega)
    · refine gr_iload_n dX4_degree_15 rfl ?_
      exact gr_ireturn dX4_degree_16 rfl (Nat.le_refl _) (Nat.le_refl _) ⟨rfl, by rw [show pdeg v (k + 1) = k + 1 from if_neg (fun z => c_12 (by rw [z]; rfl)), dn_top]⟩

set_option maxHeartbeats 4000000 in
set_option maxRecDepth 100000 in
theorem c_degree (l : Launch) (E : ga_E) (d : Nat) (h : ga_H) (a n : Nat) (v : Nat → zp) (ha : h a = some (ga_f E n v)) (hn : n < 2 ^ 31) : ga_Ok l E d mX4_degree [.ref a] h 0 0 (fun r h' => h' = h ∧ r = some (.int (nI (pdeg v n) - nI 1))) := by
  refine ga_Ok.of 1 _ (by decide) rfl (Nat.le_of_ble_eq_true rfl) rfl ?_
  refine gr_aload_n dX4_degree_0 rfl ?_
  refine gr_alen_i dX4_degree_1 ha ?_
  refine gr_iconst (v := nI 1) dX4_degree_2 rfl ?_
  refine gr_isub dX4_degree_3 ?_
  refine gr_istore_n dX4_degree_4 (by decide) rfl ?_
  exact c_degree_loop l E d h a n v ha hn n (Nat.le_refl _)

theorem zo_sx (s : zp) (x : Nat) (c : zp) : zo (s.val * x + c.val) = s * zo x + c := by rw [zo_add, zo_mul, zo_self, zo_self]

set_option maxHeartbeats 4000000 in
set_option maxRecDepth 100000 in
theorem c_valueAt_loop (l : Launch) (E : ga_E) (d : Nat) (h : ga_H) (a n x : Nat) (v : Nat → zp) (ha : h a = some (ga_f E n v)) (hn : n < 2 ^ 31) (hx : x < 60000) (res : zp) : ∀ k : Nat, k ≤ n → ∀ s : zp, phor v (zo x) k s = res → ga_G l E mX4_valueAt (ga_Rm d 0 0) (ga_Z E (fun r h' => h' = h ∧ r = some (.int (nI res.val))) 0 0) 7 [some (.ref a), some (.int (nI x)), some (.int (nI s.val)), some (.int (nI k - nI 1))] [] h 0 0 := by
  intro k
  induction k with
  | zero =>
    intro _ s hs
    refine gr_iload_n dX4_valueAt_7 rfl ?_
    refine gr_iflt 29 dX4_valueAt_8 (by decide) (fun _ => ?_) (fun c => absurd ((dn_neg (by decide)).mpr rfl) c)
    refine gr_iload_n dX4_valueAt_29 rfl ?_
    exact gr_ireturn dX4_valueAt_30 rfl (Nat.le_refl _) (Nat.le_refl _) ⟨rfl, by rw [← hs]; rfl⟩
  | succ k ih =>
    intro hk s hs
    rw [dn_top]
    have hb : s.val * x + (v k).val < 2 ^ 31 := by
      have h1 := zl s
      have h2 := zl (v k)
      have h3 : s.val * x ≤ 32002 * 60000 := Nat.mul_le_mul (by omega) (by omega)
      omega
    refine gr_iload_n dX4_valueAt_7 rfl ?_
    refine gr_ifltN dX4_valueAt_8 29 (by decide) (by omega) ?_
    refine gr_iload_n dX4_valueAt_11 rfl ?_
    refine gr_iload_n dX4_valueAt_12 rfl ?_
    refine gr_imulN dX4_valueAt_13 ?_
    refine gr_aload_n dX4_valueAt_14 rfl ?_
    refine gr_iload_n dX4_valueAt_15 rfl ?_
    refine gr_ialoadF dX4_valueAt_16 ha (by omega) hn ?_
    refine gr_iaddN dX4_valueAt_17 ?_
    refine gr_remP dX4_valueAt_18 dX4_valueAt_21 hb (zo_sx s x (v k)) ?_
    refine gr_istore_n dX4_valueAt_22 (by decide) rfl ?_
    refine gr_iinc (v := nI k - nI 1) dX4_valueAt_23 rfl (dn_step k) (by decide) rfl ?_
    refine gr_goto 7 dX4_valueAt_26 (by decide) ?_
    exact ih (by omega) _ hs

set_option maxHeartbeats 4000000 in
set_option maxRecDepth 100000 in
theorem c_valueAt (l : Launch) (E : ga_E) (d : Nat) (h : ga_H) (a n x : Nat) (v : Nat → zp) (ha : h a = some (ga_f E n v)) (hn : n < 2 ^ 31) (hx : x < 60000) : ga_Ok l E d mX4_valueAt [.ref a, .int (nI x)] h 0 0 (fun r h' => h' = h ∧ r = some (.int (nI (phor v (zo x) n 0).val))) := by
  refine ga_Ok.of 2 _ (by decide) rfl (Nat.le_of_ble_eq_true rfl) rfl ?_
  refine gr_iconst (v := nI (0 : zp).val) dX4_valueAt_0 rfl ?_
  refine gr_istore_n dX4_valueAt_1 (by decide) rfl ?_
  refine gr_aload_n dX4_valueAt_2 rfl ?_
  refine gr_alen_i dX4_valueAt_3 ha ?_
  refine gr_iconst (v := nI 1) dX4_valueAt_4 rfl ?_
  refine gr_isub dX4_valueAt_5 ?_
  refine gr_istore_n dX4_valueAt_6 (by decide) rfl ?_
  exact c_valueAt_loop l E d h a n x v ha hn hx _ n (Nat.le_refl _) 0 rfl

def pmonI (v : Nat → zp) (z : zp) (i : Nat) : Nat → zp := fun j => if j < i then v j * z else v j
theorem pmon_zero {v : Nat → zp} {n : Nat} (hk : pdeg v n = 0) : pmon v n = v := by
  funext j; unfold pmon; rw [hk]; simp
theorem pmon_up {v : Nat → zp} {z : zp} {i : Nat} (_ : i ≤ i) : va_up (pmonI v z i) i (pmonI v z i i * z) = pmonI v z (i + 1) := by
  funext j; unfold va_up pmonI
  by_cases e : j = i
  · subst e; simp
  · by_cases h : j < i
    · simp [e, h, Nat.lt_succ_of_lt h]
    · simp [e, h, show ¬ j < i + 1 by omega]
theorem pmon_end {v : Nat → zp} {n k i : Nat} (hk : pdeg v n = k + 1) (hi : i = k + 1) : pmonI v (zinv (v k)) i = pmon v n := by
  funext j; unfold pmonI pmon; rw [hk, hi]; rfl
theorem pmonI_0 (v : Nat → zp) (z : zp) : pmonI v z 0 = v := by
  funext j; unfold pmonI; simp
theorem zpow_one : ∀ n, zpow 1 n = 1
  | 0 => rfl
  | n + 1 => by show zpow 1 n * 1 = 1; rw [zpow_one n]; rfl
theorem pmon_one {v : Nat → zp} {n k : Nat} (hk : pdeg v n = k + 1) (h1 : v k = 1) : pmon v n = v := by
  funext j; unfold pmon; rw [hk]
  show (if j < k + 1 then v j * zinv (v k) else v j) = v j
  rw [h1, show zinv 1 = 1 from zpow_one _, Fin.mul_one]
  split <;> rfl

set_option maxHeartbeats 4000000 in
set_option maxRecDepth 100000 in
theorem c_makeMonic_loop (l : Launch) (E : ga_E) (d : Nat) (h : ga_H) (a n k : Nat) (v : Nat → zp) (hn : n < 2 ^ 31) (hk : pdeg v n = k + 1) (hkn : k < n) : ∀ (m i : Nat), i + m = k + 1 → i ≤ k + 1 → ga_G l E mX4_makeMonic (ga_Rm (d + 1) 0 0) (ga_Z E (fun r h' => h' = ga_up h a (ga_f E n (pmon v n)) ∧ r = none) 0 0) 26 [some (.ref a), some (.int (nI k)), some (.int (nI (zinv (v k)).val)), some (.int (nI i))] [] (ga_up h a (ga_f E n (pmonI v (zinv (v k)) i))) 0 0 := by
  intro m
  induction m with
  | zero =>
    intro i hi hik
    refine gr_iload_n dX4_makeMonic_26 rfl (gr_iload_n dX4_makeMonic_27 rfl ?_)
    refine gr_icmpgtN 49 dX4_makeMonic_28 (by decide) (by omega) (by omega) (fun c_28 => ?_) (fun c_28 => absurd c_28 (by omega))
    exact gr_return dX4_makeMonic_49 rfl (Nat.le_refl _) (Nat.le_refl _) ⟨by rw [pmon_end hk (by omega)], rfl⟩
  | succ m ih =>
    intro i hi hik
    refine gr_iload_n dX4_makeMonic_26 rfl (gr_iload_n dX4_makeMonic_27 rfl ?_)
    refine gr_icmpgtN 49 dX4_makeMonic_28 (by decide) (by omega) (by omega) (fun c_28 => absurd c_28 (by omega)) (fun c_28 => ?_)
    refine gr_aload_n dX4_makeMonic_31 rfl ?_
    refine gr_iload_n dX4_makeMonic_32 rfl ?_
    refine gr_aload_n dX4_makeMonic_33 rfl ?_
    refine gr_iload_n dX4_makeMonic_34 rfl ?_
    refine gr_ialoadU dX4_makeMonic_35 (by omega) hn ?_
    refine gr_iload_n dX4_makeMonic_36 rfl ?_
    refine gr_mulP dX4_makeMonic_37 dX4_makeMonic_38 dX4_makeMonic_41 ?_
    refine gr_iastoreU dX4_makeMonic_42 (by omega) hn ?_
    refine gr_iinc (v := nI (_ + 1)) dX4_makeMonic_43 rfl (nI_1 _) (by decide) rfl ?_
    refine gr_goto 26 dX4_makeMonic_46 (by decide) ?_
    rw [pmon_up (by omega)]
    exact ih (i + 1) (by omega) (by omega)

set_option maxHeartbeats 4000000 in
set_option maxRecDepth 100000 in
theorem c_makeMonic (l : Launch) (E : ga_E) (d : Nat) (h : ga_H) (a n : Nat) (v : Nat → zp) (ha : h a = some (ga_f E n v)) (hn : n < 2 ^ 31) : ga_Ok l E (d + 1) mX4_makeMonic [.ref a] h 0 0 (fun r h' => h' = ga_up h a (ga_f E n (pmon v n)) ∧ r = none) := by
  refine ga_Ok.of 3 _ (by decide) rfl (Nat.le_of_ble_eq_true rfl) rfl ?_
  refine gr_aload_n dX4_makeMonic_0 rfl ?_
  refine gr_callS dX4_makeMonic_1 (c_degree l E d h a n v ha hn) ysX4_degree ⟨ml_X4_9, sm_X4_degree⟩ rfl rfl (Nat.le_of_ble_eq_true rfl) ⟨(Nat.le_refl _), (Nat.le_refl _)⟩ ⟨(Nat.le_refl _), (Nat.le_refl _)⟩ (fun r h1 hp => ?_)
  obtain ⟨e1, rfl⟩ := hp
  subst h1
  have hle := pdeg_le v n
  rcases hk : pdeg v n with _ | k
  · refine gr_istore_n dX4_makeMonic_4 (by decide) rfl ?_
    refine gr_iload_n dX4_makeMonic_5 rfl ?_
    refine gr_iflt 16 dX4_makeMonic_6 (by decide) (fun _ => ?_) (fun c => absurd ((dn_neg (by decide)).mpr rfl) c)
    exact gr_return dX4_makeMonic_16 rfl (Nat.le_refl _) (Nat.le_refl _) ⟨by rw [pmon_zero hk, ga_up_self ha], rfl⟩
  · rw [hk] at hle
    refine gr_top (congrArg Value.int (dn_top k)) ?_
    refine gr_istore_n dX4_makeMonic_4 (by decide) rfl ?_
    refine gr_iload_n dX4_makeMonic_5 rfl ?_
    refine gr_ifltN dX4_makeMonic_6 16 (by decide) (by omega) ?_ --one
    refine gr_aload_n dX4_makeMonic_9 rfl ?_
    refine gr_iload_n dX4_makeMonic_10 rfl ?_
    refine gr_ialoadF dX4_makeMonic_11 ha (by omega) hn ?_
    refine gr_iconst (v := nI 1) dX4_makeMonic_12 rfl ?_
    refine gr_icmpneN 17 dX4_makeMonic_13 (by decide) (by have := zl (v k); omega) (by decide) (fun c_13 => ?_) (fun c_13 => ?_)
    · refine gr_aload_n dX4_makeMonic_17 rfl ?_
      refine gr_iload_n dX4_makeMonic_18 rfl ?_
      refine gr_ialoadF dX4_makeMonic_19 ha (by omega) hn ?_
      refine gr_callS dX4_makeMonic_20 (c_inverse l E d h (v k)) ysX3_inverse ⟨ml_X4_15, sm_X3_inverse⟩ rfl rfl (Nat.le_of_ble_eq_true rfl) ⟨(Nat.le_refl _), (Nat.le_refl _)⟩ ⟨(Nat.le_refl _), (Nat.le_refl _)⟩ (fun r h1 hp => ?_)
      obtain ⟨e1, rfl⟩ := hp
      subst h1
      refine gr_istore_n dX4_makeMonic_23 (by decide) rfl ?_
      refine gr_iconst (v := nI 0) dX4_makeMonic_24 rfl ?_
      refine gr_istore_n dX4_makeMonic_25 (by decide) rfl ?_
      refine gr_h (show h = ga_up h a (ga_f E n (pmonI v (zinv (v k)) 0)) by rw [pmonI_0, ga_up_self ha]) ?_
      exact c_makeMonic_loop l E d h a n k v hn hk (by omega) (k + 1) 0 (by omega) (by omega)
    · exact gr_return dX4_makeMonic_16 rfl (Nat.le_refl _) (Nat.le_refl _) ⟨by rw [pmon_one hk (Fin.ext c_13), ga_up_self ha], rfl⟩
end
section
/-! Polynomials: products by a linear one, remainders -/
theorem dn_stepS (q : Nat) : nI (q + 1) + Int32.ofInt (-1) = nI q := by rw [dn_step, dn_top]
def pmI (v : Nat → zp) (n : Nat) (c : zp) (p : Nat) : Nat → zp := fun j => if p < j ∧ j < n then v j * c + v (j - 1) else v j
theorem pmI_0 (v : Nat → zp) (n : Nat) (c : zp) : pmI v n c (n - 1) = v := by
  funext j; unfold pmI; rw [if_neg (by omega)]
theorem pmI_at {v : Nat → zp} {n p j : Nat} {c : zp} (h : j ≤ p) : pmI v n c p j = v j := by
  unfold pmI; rw [if_neg (by omega)]
theorem pmI_up {v : Nat → zp} {n q : Nat} {c : zp} (h : q + 1 < n) : va_up (pmI v n c (q + 1)) (q + 1) (v (q + 1) * c + v q) = pmI v n c q := by
  funext j; unfold va_up pmI
  by_cases e : j = q + 1
  · subst e; rw [if_pos rfl, if_pos (by omega)]; rfl
  · by_cases h2 : q + 1 < j ∧ j < n
    · rw [if_neg e, if_pos h2, if_pos (by omega)]
    · rw [if_neg e, if_neg h2, if_neg (by omega)]
theorem pmI_end {v : Nat → zp} {n : Nat} {c : zp} (h : 0 < n) : va_up (pmI v n c 0) 0 (v 0 * c) = pmul v n c := by
  funext j; unfold va_up pmI pmul
  by_cases e : j = 0
  · subst e; rw [if_pos rfl, if_pos h, if_pos rfl]
  · by_cases h2 : j < n
    · rw [if_neg e, if_pos ⟨by omega, h2⟩, if_pos h2, if_neg e]
    · rw [if_neg e, if_neg (by omega), if_neg h2]
theorem zmad (a c b : zp) : zo (a.val * c.val + b.val) = a * c + b := by rw [zo_add, zo_mul, zo_self, zo_self, zo_self]

set_option maxHeartbeats 4000000 in
set_option maxRecDepth 100000 in
theorem c_mulLin_loop (l : Launch) (E : ga_E) (d : Nat) (h : ga_H) (a n : Nat) (v : Nat → zp) (c : zp) (h0 : 0 < n) (hn : n < 2 ^ 31) : ∀ p : Nat, p < n → ga_G l E mX4_multiplyByLinear (ga_Rm d 0 0) (ga_Z E (fun r h' => h' = ga_up h a (ga_f E n (pmul v n c)) ∧ r = none) 0 0) 5 [some (.ref a), some (.int (nI c.val)), some (.int (nI p))] [] (ga_up h a (ga_f E n (pmI v n c p))) 0 0 := by
  intro p
  induction p with
  | zero =>
    intro _
    refine gr_iload_n dX4_multiplyByLinear_5 rfl (gr_iconst (v := nI 1) dX4_multiplyByLinear_6 rfl ?_)
    refine gr_icmpltN 34 dX4_multiplyByLinear_7 (by decide) (by decide) (by decide) (fun _ => ?_) (fun z => absurd z (by decide))
    refine gr_aload_n dX4_multiplyByLinear_34 rfl ?_
    refine gr_alen_i dX4_multiplyByLinear_35 ga_up_eq ?_
    refine gr_ifleN 51 dX4_multiplyByLinear_36 (by decide) (by omega) (fun c_36 => absurd c_36 (by omega)) (fun c_36 => ?_) --one
    refine gr_aload_n dX4_multiplyByLinear_39 rfl ?_
    refine gr_iconst (v := nI 0) dX4_multiplyByLinear_40 rfl ?_
    refine gr_aload_n dX4_multiplyByLinear_41 rfl ?_
    refine gr_iconst (v := nI 0) dX4_multiplyByLinear_42 rfl ?_
    refine gr_ialoadU dX4_multiplyByLinear_43 (by omega) hn ?_
    rw [pmI_at (Nat.le_refl 0)]
    refine gr_iload_n dX4_multiplyByLinear_44 rfl ?_
    refine gr_mulP dX4_multiplyByLinear_45 dX4_multiplyByLinear_46 dX4_multiplyByLinear_49 ?_
    refine gr_iastoreU dX4_multiplyByLinear_50 (by omega) hn ?_
    rw [pmI_end h0]
    exact gr_return dX4_multiplyByLinear_51 rfl (Nat.le_refl _) (Nat.le_refl _) ⟨rfl, rfl⟩
  | succ q ih =>
    intro hq
    refine gr_iload_n dX4_multiplyByLinear_5 rfl (gr_iconst (v := nI 1) dX4_multiplyByLinear_6 rfl ?_)
    refine gr_icmpltN 34 dX4_multiplyByLinear_7 (by decide) (by omega) (by decide) (fun z => absurd z (by omega)) (fun _ => ?_)
    refine gr_aload_n dX4_multiplyByLinear_10 rfl ?_
    refine gr_iload_n dX4_multiplyByLinear_11 rfl ?_
    refine gr_aload_n dX4_multiplyByLinear_12 rfl ?_
    refine gr_iload_n dX4_multiplyByLinear_13 rfl ?_
    refine gr_ialoadU dX4_multiplyByLinear_14 (by omega) hn ?_
    rw [pmI_at (Nat.le_refl _)]
    refine gr_iload_n dX4_multiplyByLinear_15 rfl ?_
    refine gr_imulN dX4_multiplyByLinear_16 ?_
    refine gr_aload_n dX4_multiplyByLinear_17 rfl ?_
    refine gr_iload_n dX4_multiplyByLinear_18 rfl ?_
    refine gr_iconst (v := nI 1) dX4_multiplyByLinear_19 rfl ?_
    refine gr_isubN dX4_multiplyByLinear_20 (by omega) ?_
    rw [Nat.add_sub_cancel]
    refine gr_ialoadU dX4_multiplyByLinear_21 (by omega) hn ?_
    rw [pmI_at (by omega)]
    refine gr_iaddN dX4_multiplyByLinear_22 ?_
    refine gr_remP dX4_multiplyByLinear_23 dX4_multiplyByLinear_26 (by have := zmul_lt (v (q + 1)) c; have := zl (v q); omega) (zmad _ _ _) ?_
    refine gr_iastoreU dX4_multiplyByLinear_27 (by omega) hn ?_
    rw [pmI_up (by omega)]
    refine gr_iinc (v := nI q) dX4_multiplyByLinear_28 rfl (dn_stepS q) (by decide) rfl ?_
    refine gr_goto 5 dX4_multiplyByLinear_31 (by decide) ?_
    exact ih (by omega)

set_option maxHeartbeats 4000000 in
set_option maxRecDepth 100000 in
theorem c_mulLin (l : Launch) (E : ga_E) (d : Nat) (h : ga_H) (a n : Nat) (v : Nat → zp) (c : zp) (ha : h a = some (ga_f E n v)) (h0 : 0 < n) (hn : n < 2 ^ 31) : ga_Ok l E d mX4_multiplyByLinear [.ref a, .int (nI c.val)] h 0 0 (fun r h' => h' = ga_up h a (ga_f E n (pmul v n c)) ∧ r = none) := by
  refine ga_Ok.of 1 _ (by decide) rfl (Nat.le_of_ble_eq_true rfl) rfl ?_
  refine gr_aload_n dX4_multiplyByLinear_0 rfl ?_
  refine gr_alen_i dX4_multiplyByLinear_1 ha ?_
  refine gr_iconst (v := nI 1) dX4_multiplyByLinear_2 rfl ?_
  refine gr_isubN dX4_multiplyByLinear_3 (by omega) ?_
  refine gr_istore_n dX4_multiplyByLinear_4 (by decide) rfl ?_
  refine gr_h (show h = ga_up h a (ga_f E n (pmI v n c (n - 1))) by rw [pmI_0, ga_up_self ha]) ?_
  exact c_mulLin_loop l E d h a n v c h0 hn (n - 1) (by omega)

def psI (v w : Nat → zp) (k p i : Nat) : Nat → zp := fun j => if p + 1 ≤ j + k ∧ j + k < p + 1 + i then v j - v p * w (j + k - (p + 1)) else v j
theorem psI_0 (v w : Nat → zp) (k p : Nat) : psI v w k p 0 = v := by
  funext j; unfold psI; rw [if_neg (by omega)]
theorem psI_at {v w : Nat → zp} {k p i j : Nat} (h : p + 1 + i ≤ j + k) : psI v w k p i j = v j := by
  unfold psI; rw [if_neg (by omega)]
theorem psI_up {v w : Nat → zp} {t p i : Nat} (ht : t ≤ p) : va_up (psI v w (t + 1) p i) (p - t + i) (v (p - t + i) - v p * w i) = psI v w (t + 1) p (i + 1) := by
  funext j; unfold va_up psI
  by_cases e : j = p - t + i
  · subst e
    rw [if_pos rfl, if_pos (by omega), show p - t + i + (t + 1) - (p + 1) = i by omega]
  · by_cases h2 : p + 1 ≤ j + (t + 1) ∧ j + (t + 1) < p + 1 + i
    · rw [if_neg e, if_pos h2, if_pos (by omega)]
    · rw [if_neg e, if_neg h2, if_neg (by omega)]
theorem psI_end (v w : Nat → zp) (t p : Nat) : psI v w (t + 1) p (t + 1) = pstep v w (t + 1) p := by
  funext j; unfold psI pstep
  by_cases h : p + 1 ≤ j + (t + 1) ∧ j ≤ p
  · rw [if_pos (by omega), if_pos h]
  · rw [if_neg (by omega), if_neg h]
theorem pstep_0 {v w : Nat → zp} {k p : Nat} (h : v p = 0) : pstep v w k p = v := by
  funext j; unfold pstep
  split
  · rw [h]; grind
  · rfl

set_option maxHeartbeats 4000000 in
set_option maxRecDepth 100000 in
theorem c_reduce_inner (l : Launch) (E : ga_E) (d : Nat) (h : ga_H) (a b n m t : Nat) (w : Nat → zp) (res : Nat → zp) (hab : b ≠ a) (hb : h b = some (ga_f E m w)) (hn : n < 2 ^ 31) (hm : m < 2 ^ 31) (htm : t < m) (v : Nat → zp) (p : Nat) (hp : p < n) (htp : t ≤ p) (k : ∀ x5 x6 : Option Value, ga_G l E mX4_reduceBy (ga_Rm (d + 1) 0 0) (ga_Z E (fun r h' => h' = ga_up h a (ga_f E n res) ∧ r = none) 0 0) 73 [some (.ref a), some (.ref b), some (.int (nI t)), some (.int (nI p)), some (.int (nI (v p).val)), x5, x6] [] (ga_up h a (ga_f E n (pstep v w (t + 1) p))) 0 0) : ∀ (g i : Nat) (x6 : Option Value), i + g = t + 1 → ga_G l E mX4_reduceBy (ga_Rm (d + 1) 0 0) (ga_Z E (fun r h' => h' = ga_up h a (ga_f E n res) ∧ r = none) 0 0) 36 [some (.ref a), some (.ref b), some (.int (nI t)), some (.int (nI p)), some (.int (nI (v p).val)), some (.int (nI i)), x6] [] (ga_up h a (ga_f E n (psI v w (t + 1) p i))) 0 0 := by
  intro g
  induction g with
  | zero =>
    intro i x6 hi
    refine gr_iload dX4_reduceBy_36 rfl (gr_iload_n dX4_reduceBy_38 rfl ?_)
    refine gr_icmpgtN 73 dX4_reduceBy_39 (by decide) (by omega) (by omega) (fun _ => ?_) (fun z => absurd z (by omega))
    rw [show i = t + 1 by omega, psI_end]
    exact k _ _
  | succ g ih =>
    intro i x6 hi
    refine gr_iload dX4_reduceBy_36 rfl (gr_iload_n dX4_reduceBy_38 rfl ?_)
    refine gr_icmpgtN 73 dX4_reduceBy_39 (by decide) (by omega) (by omega) (fun z => absurd z (by omega)) (fun _ => ?_)
    refine gr_iload_n dX4_reduceBy_42 rfl ?_
    refine gr_iload_n dX4_reduceBy_43 rfl ?_
    refine gr_isubN dX4_reduceBy_44 (by omega) ?_
    refine gr_iload dX4_reduceBy_45 rfl ?_
    refine gr_iaddN dX4_reduceBy_47 ?_
    refine gr_istore dX4_reduceBy_48 (by decide) rfl ?_
    refine gr_aload_n dX4_reduceBy_50 rfl ?_
    refine gr_iload dX4_reduceBy_51 rfl ?_
    refine gr_aload_n dX4_reduceBy_53 rfl ?_
    refine gr_iload dX4_reduceBy_54 rfl ?_
    refine gr_ialoadU dX4_reduceBy_56 (by omega) hn ?_
    rw [psI_at (by omega)]
    refine gr_iload dX4_reduceBy_57 rfl ?_
    refine gr_aload_n dX4_reduceBy_59 rfl ?_
    refine gr_iload dX4_reduceBy_60 rfl ?_
    refine gr_ialoadF dX4_reduceBy_62 (by rw [ga_up_ne hab]; exact hb) (by omega) hm ?_
    refine gr_callS dX4_reduceBy_63 (c_less l E d _ (v (p - t + i)) (v p) (w i)) ysX3_less ⟨ml_X4_21, sm_X3_less⟩ rfl rfl (Nat.le_of_ble_eq_true rfl) ⟨(Nat.le_refl _), (Nat.le_refl _)⟩ ⟨(Nat.le_refl _), (Nat.le_refl _)⟩ (fun r h1 hp => ?_)
    obtain ⟨e1, rfl⟩ := hp
    subst h1
    refine gr_iastoreU dX4_reduceBy_66 (by omega) hn ?_
    rw [psI_up (by omega)]
    refine gr_iinc (v := nI (_ + 1)) dX4_reduceBy_67 rfl (nI_1 _) (by decide) rfl ?_
    refine gr_goto 36 dX4_reduceBy_70 (by decide) ?_
    exact ih (i + 1) _ (by omega)

set_option maxHeartbeats 4000000 in
set_option maxRecDepth 100000 in
theorem c_reduce_outer (l : Launch) (E : ga_E) (d : Nat) (h : ga_H) (a b n m t : Nat) (w : Nat → zp) (res : Nat → zp) (hab : b ≠ a) (hb : h b = some (ga_f E m w)) (hn : n < 2 ^ 31) (hm : m < 2 ^ 31) (htm : t < m) : ∀ q : Nat, q ≤ n → ∀ (v : Nat → zp) (x4 x5 x6 : Option Value), prd w (t + 1) q v = res → ga_G l E mX4_reduceBy (ga_Rm (d + 1) 0 0) (ga_Z E (fun r h' => h' = ga_up h a (ga_f E n res) ∧ r = none) 0 0) 15 [some (.ref a), some (.ref b), some (.int (nI t)), some (.int (nI q - nI 1)), x4, x5, x6] [] (ga_up h a (ga_f E n v)) 0 0 := by
  intro q
  induction q with
  | zero =>
    intro _ v x4 x5 x6 hv
    refine gr_iload_n dX4_reduceBy_15 rfl (gr_iload_n dX4_reduceBy_16 rfl ?_)
    refine gr_icmplt 79 dX4_reduceBy_17 (by decide) (fun _ => ?_) (fun z => absurd (Int32.lt_of_lt_of_le ((dn_neg (by decide)).mpr rfl) (nI_pos' (by omega))) z)
    exact gr_return dX4_reduceBy_79 rfl (Nat.le_refl _) (Nat.le_refl _) ⟨by rw [← hv]; rfl, rfl⟩
  | succ p ih =>
    intro hp v x4 x5 x6 hv
    rw [dn_top]
    refine gr_iload_n dX4_reduceBy_15 rfl (gr_iload_n dX4_reduceBy_16 rfl ?_)
    refine gr_icmpltN 79 dX4_reduceBy_17 (by decide) (by omega) (by omega) (fun c_17 => ?_) (fun c_17 => ?_)
    · exact gr_return dX4_reduceBy_79 rfl (Nat.le_refl _) (Nat.le_refl _) ⟨by rw [← hv, show prd w (t + 1) (p + 1) v = v from if_pos (by omega)], rfl⟩
    · have hv : prd w (t + 1) p (pstep v w (t + 1) p) = res := by rw [← hv, show prd w (t + 1) (p + 1) v = prd w (t + 1) p (pstep v w (t + 1) p) from if_neg (by omega)]
      refine gr_aload_n dX4_reduceBy_20 rfl ?_
      refine gr_iload_n dX4_reduceBy_21 rfl ?_
      refine gr_ialoadU dX4_reduceBy_22 (by omega) hn ?_
      refine gr_istore dX4_reduceBy_23 (by decide) rfl ?_
      refine gr_iload dX4_reduceBy_25 rfl ?_
      refine gr_ifneN 33 dX4_reduceBy_27 (by decide) (by have := zl (v p); omega) (fun c_27 => ?_) (fun c_27 => ?_)
      · refine gr_iconst (v := nI 0) dX4_reduceBy_33 rfl ?_
        refine gr_istore dX4_reduceBy_34 (by decide) rfl ?_
        refine gr_h (show ga_up h a (ga_f E n v) = ga_up h a (ga_f E n (psI v w (t + 1) p 0)) by rw [psI_0]) ?_
        refine c_reduce_inner l E d h a b n m t w res hab hb hn hm htm v p (by omega) (by omega) (fun x5 x6 => ?_) (t + 1) 0 _ (by omega)
        refine gr_iinc (v := nI p - nI 1) dX4_reduceBy_73 rfl (dn_step p) (by decide) rfl ?_
        refine gr_goto 15 dX4_reduceBy_76 (by decide) ?_
        exact ih (by omega) _ _ _ _ hv
      · refine gr_goto 73 dX4_reduceBy_30 (by decide) ?_
        rw [pstep_0 (Fin.ext c_27)] at hv
        refine gr_iinc (v := nI p - nI 1) dX4_reduceBy_73 rfl (dn_step p) (by decide) rfl ?_
        refine gr_goto 15 dX4_reduceBy_76 (by decide) ?_
        exact ih (by omega) _ _ _ _ hv

def pred (v : Nat → zp) (n : Nat) (w : Nat → zp) (m : Nat) : Nat → zp := if pdeg w m = 0 then v else prd w (pdeg w m) n v

set_option maxHeartbeats 4000000 in
set_option maxRecDepth 100000 in
theorem c_reduceBy (l : Launch) (E : ga_E) (d : Nat) (h : ga_H) (a b n m : Nat) (v w : Nat → zp) (hab : b ≠ a) (ha : h a = some (ga_f E n v)) (hb : h b = some (ga_f E m w)) (hn : n < 2 ^ 31) (hm : m < 2 ^ 31) : ga_Ok l E (d + 1) mX4_reduceBy [.ref a, .ref b] h 0 0 (fun r h' => h' = ga_up h a (ga_f E n (pred v n w m)) ∧ r = none) := by
  refine ga_Ok.of 5 _ (by decide) rfl (Nat.le_of_ble_eq_true rfl) rfl ?_
  refine gr_aload_n dX4_reduceBy_0 rfl ?_
  refine gr_callS dX4_reduceBy_1 (c_degree l E d h b m w hb hm) ysX4_degree ⟨ml_X4_9, sm_X4_degree⟩ rfl rfl (Nat.le_of_ble_eq_true rfl) ⟨(Nat.le_refl _), (Nat.le_refl _)⟩ ⟨(Nat.le_refl _), (Nat.le_refl _)⟩ (fun r h1 hp => ?_)
  obtain ⟨e1, rfl⟩ := hp
  subst h1
  have hle := pdeg_le w m
  rcases hk : pdeg w m with _ | t
  · refine gr_istore_n dX4_reduceBy_4 (by decide) rfl ?_
    refine gr_iload_n dX4_reduceBy_5 rfl ?_
    refine gr_ifge 10 dX4_reduceBy_6 (by decide) (fun z => absurd ((dn_neg (by decide)).mpr rfl) (Int32.not_lt.mpr z)) (fun _ => ?_)
    exact gr_return dX4_reduceBy_9 rfl (Nat.le_refl _) (Nat.le_refl _) ⟨by unfold pred; rw [if_pos hk, ga_up_self ha], rfl⟩
  · rw [hk] at hle
    refine gr_top (congrArg Value.int (dn_top t)) ?_
    refine gr_istore_n dX4_reduceBy_4 (by decide) rfl ?_
    refine gr_iload_n dX4_reduceBy_5 rfl ?_
    refine gr_ifge 10 dX4_reduceBy_6 (by decide) (fun _ => ?_) (fun z => absurd (nI_pos' (by omega)) z)
    refine gr_aload_n dX4_reduceBy_10 rfl ?_
    refine gr_alen_i dX4_reduceBy_11 ha ?_
    refine gr_iconst (v := nI 1) dX4_reduceBy_12 rfl ?_
    refine gr_isub dX4_reduceBy_13 ?_
    refine gr_istore_n dX4_reduceBy_14 (by decide) rfl ?_
    refine gr_h (show h = ga_up h a (ga_f E n v) by rw [ga_up_self ha]) ?_
    exact c_reduce_outer l E d h a b n m t w _ hab hb hn hm (by omega) n (Nat.le_refl _) v _ _ _ (by unfold pred; rw [if_neg (by omega), hk])
end
section
/-! Longs modulo 32003; max and min; quotients -/
/-- a contract out of a walk, of a class some of whose methods the machine runs by itself -/
theorem ga_Ok.ofF {l : Launch} {E : ga_E} {d : Nat} {M : ga_M} {As : List Value} {h : ga_H} {nc ns : Nat} {Post : Option Value → ga_H → Prop} (k : Nat) (lv : List (Option Value)) (hy : plainFor M.1 = true) (hx : M.2.2.2.2 = []) (ha : (lg_sl As).length ≤ M.2.2.1) (hlv : ga_args As ++ List.replicate k none = lv)
    (g : ga_G l E M (ga_Rm d nc ns) (ga_Z E Post nc ns) 0 lv [] h 0 0) : ga_Ok l E d M As h nc ns Post := by
  unfold ga_Ok Met
  refine MetFree.of_bodySF (code := M.2.1) (maxLocals := M.2.2.1) (ret := M.2.2.2.1) hy ?_ ?_
  · intro args s m h hn
    obtain ⟨meth, c, h1, h2, h3, h4, h5, h6, -, -⟩ := Cond.code_spec hn (atoms_spec (ws := ga_Wd M) h _ List.mem_cons_self)
    exact ⟨meth, c, h1, h2, h3, h4, h5, h6⟩
  · intro p e s m args below meth c s₁ B hml hv _
    have hh0 : s₁.heap = s.heap := by rw [B.state]; rfl
    obtain ⟨rfl, hv⟩ := hv
    have hts := atoms_spec (ws := ga_Wd M) B.pre
    subst hlv
    have he := BodyLoose.noHandlers B (hts _ List.mem_cons_self)
    have K := g p e s m _ below meth c s.heap [] _ ⟨B.exec, B.bytes, hml, B.returns, B.notSynchronized, (name_of_methodNamed B.named B.method).1, findClass_of_methodNamed B.named, fun w hw => hts w (List.mem_cons_of_mem _ hw), hv.1, hv.2.1, by rw [hx]; simpa using he, hv.2.2.1⟩ hv.2.2.2 va_S.rf (ga_L.entry As ha)
    obtain ⟨t, a1, o, b1, b2, b3⟩ := K s₁ hh0 (Stand.of_body B)
    rw [← lg_entry_eq] at a1
    exact ⟨t, o, a1, b1, b2, ⟨b3.1, b3.2⟩⟩
/-- a long as a number -/
def zL (x : Int64) : zp := zo (x.toInt % 32003).toNat
theorem l64_of (x : Int64) : Int64.ofInt x.toInt = x := Int64.ofInt_toInt x
theorem l64_lo (x : Int64) : -9223372036854775808 ≤ x.toInt := Int64.le_toInt x
theorem l64_hi (x : Int64) : x.toInt < 9223372036854775808 := Int64.toInt_lt x
theorem l64_in {i : Int} (h1 : -9223372036854775808 ≤ i) (h2 : i < 9223372036854775808) : (Int64.ofInt i).toInt = i := Int64.toInt_ofInt_of_le h1 h2
theorem l64_tdiv (x : Int64) : x / (32003 : Int64) = Int64.ofInt (x.toInt.tdiv 32003) := by
  have h1 := l64_lo x
  have h2 := l64_hi x
  have e := Int64.toInt_div x (32003 : Int64)
  rw [show (32003 : Int64).toInt = 32003 from rfl] at e
  rw [← l64_of (x / 32003), e]
  apply Int64.toInt_inj.mp
  rw [Int64.toInt_ofInt, Int64.toInt_ofInt]
  exact Int.bmod_bmod
theorem l64_rem (x : Int64) : x - x / (32003 : Int64) * (32003 : Int64) = Int64.ofInt (x.toInt.tmod 32003) := by
  rw [l64_tdiv, Int.tmod_def, Int64.ofInt_sub, Int64.ofInt_mul, l64_of, Int64.mul_comm]
  rfl
theorem l64_remI (x : Int64) : (x - x / (32003 : Int64) * (32003 : Int64)).toInt = x.toInt.tmod 32003 := by
  rw [l64_rem]
  have h1 : x.toInt.tmod 32003 < 32003 := Int.tmod_lt_of_pos _ (by decide)
  have h2 : -32003 < x.toInt.tmod 32003 := Int.lt_tmod_of_pos _ (by decide)
  exact l64_in (by omega) (by omega)
theorem l64_emod (x : Int) : x % 32003 = if x.tmod 32003 < 0 then x.tmod 32003 + 32003 else x.tmod 32003 := by
  have h1 : x.tmod 32003 < 32003 := Int.tmod_lt_of_pos _ (by decide)
  have h2 : -32003 < x.tmod 32003 := Int.lt_tmod_of_pos _ (by decide)
  have h3 := Int.mul_tdiv_add_tmod x 32003
  split <;> omega
theorem zL_val (x : Int64) : ((zL x).val : Int) = x.toInt % 32003 := by
  unfold zL
  rw [zo_val]
  have h1 := Int.emod_nonneg x.toInt (show (32003 : Int) ≠ 0 by decide)
  have h2 := Int.emod_lt_of_pos x.toInt (show (0 : Int) < 32003 by decide)
  omega
theorem zL_neg {x : Int64} (h : (x - x / (32003 : Int64) * (32003 : Int64)).toInt < 0) : x - x / (32003 : Int64) * (32003 : Int64) + (32003 : Int64) = lN (zL x).val := by
  have e := l64_remI x
  rw [e] at h
  have hz := zL_val x
  rw [l64_emod, if_pos h] at hz
  rw [l64_rem, show (32003 : Int64) = Int64.ofInt 32003 from rfl, ← Int64.ofInt_add, ← hz]
  exact Int64.ofInt_eq_ofNat
theorem zL_pos {x : Int64} (h : 0 ≤ (x - x / (32003 : Int64) * (32003 : Int64)).toInt) : x - x / (32003 : Int64) * (32003 : Int64) = lN (zL x).val := by
  have e := l64_remI x
  rw [e] at h
  have hz := zL_val x
  rw [l64_emod, if_neg (by omega)] at hz
  rw [l64_rem, ← hz]
  exact Int64.ofInt_eq_ofNat
theorem l64_xor (x : Int64) : (0 : Int64) ≤ x ^^^ (32003 : Int64) ↔ 0 ≤ x := by
  have key : ∀ y : Int64, (0 : Int64) ≤ y ↔ y.toBitVec.msb = false := fun y => by
    rw [Int64.le_iff_toInt_le, BitVec.msb_eq_toInt]
    show (0 : Int) ≤ y.toBitVec.toInt ↔ _
    simp
  rw [key, key, show (x ^^^ (32003 : Int64)).toBitVec = x.toBitVec ^^^ 32003#64 from rfl, BitVec.msb_xor, show (32003#64).msb = false by decide]
  simp
theorem l64_tm_pos {x : Int64} (h : 0 ≤ x) : 0 ≤ (x - x / (32003 : Int64) * (32003 : Int64)).toInt := by
  rw [l64_remI]
  exact Int.tmod_nonneg _ (by rw [Int64.le_iff_toInt_le] at h; exact h)
theorem l64_tm_neg {x : Int64} (h : ¬ 0 ≤ x) (h2 : ¬ x - x / (32003 : Int64) * (32003 : Int64) = 0) : (x - x / (32003 : Int64) * (32003 : Int64)).toInt < 0 := by
  have h1 : (x - x / (32003 : Int64) * (32003 : Int64)).toInt ≤ 0 := by
    rw [l64_remI]
    have hx : x.toInt ≤ 0 := by rw [Int64.le_iff_toInt_le] at h; have h : ¬ (0 : Int) ≤ x.toInt := h; omega
    have := Int.mul_tdiv_add_tmod x.toInt 32003
    have h5 := Int.tmod_nonneg (a := -x.toInt) 32003 (by omega)
    rw [Int.neg_tmod] at h5
    omega
  have h3 : ¬ (x - x / (32003 : Int64) * (32003 : Int64)).toInt = 0 := fun e => h2 (Int64.toInt_inj.mp e)
  omega

set_option maxHeartbeats 4000000 in
set_option maxRecDepth 100000 in
theorem c_floorMod (l : Launch) (E : ga_E) (d : Nat) (h : ga_H) (x : Int64) : ga_Ok l E d mJ9_floorMod_f86c9 [.long x, .long 32003] h 0 0 (fun r h' => h' = h ∧ r = some (.long (lN (zL x).val))) := by
  refine ga_Ok.ofF 2 _ (by decide +kernel) rfl (Nat.le_of_ble_eq_true rfl) rfl ?_
  refine gr_lload_n dJ9_floorMod_f86c9_0 rfl ?_
  refine gr_lload_n dJ9_floorMod_f86c9_1 rfl ?_
  refine gr_lrem dJ9_floorMod_f86c9_2 (by decide) ?_
  refine gr_lstore dJ9_floorMod_f86c9_3 (by decide) rfl ?_
  refine gr_lload_n dJ9_floorMod_f86c9_5 rfl ?_
  refine gr_lload_n dJ9_floorMod_f86c9_6 rfl ?_
  refine gr_lxor dJ9_floorMod_f86c9_7 ?_
  refine gr_lconst (v := 0) dJ9_floorMod_f86c9_8 rfl ?_
  refine gr_lcmp dJ9_floorMod_f86c9_9 ?_
  refine gr_ifge 25 dJ9_floorMod_f86c9_10 (by decide) (fun c_10 => ?_) (fun c_10 => ?_)
  · refine gr_lload dJ9_floorMod_f86c9_25 rfl ?_
    first | exact gr_lreturn dJ9_floorMod_f86c9_27 rfl (Nat.le_refl _) (Nat.le_refl _) ⟨rfl, by rw [zL_pos (by rw [(lg_cmp_eq _ _).mp c_17]; decide)]⟩ | exact gr_lreturn dJ9_floorMod_f86c9_27 rfl (Nat.le_refl _) (Nat.le_refl _) ⟨rfl, by rw [zL_pos (l64_tm_pos ((l64_xor x).mp ((lg_cmp_ge _ _).mp c_10)))]⟩
  · refine gr_lload dJ9_floorMod_f86c9_13 rfl ?_
    refine gr_lconst (v := 0) dJ9_floorMod_f86c9_15 rfl ?_
    refine gr_lcmp dJ9_floorMod_f86c9_16 ?_
    refine gr_ifeq 25 dJ9_floorMod_f86c9_17 (by decide) (fun c_17 => ?_) (fun c_17 => ?_)
    · refine gr_lload dJ9_floorMod_f86c9_25 rfl ?_
      first | exact gr_lreturn dJ9_floorMod_f86c9_27 rfl (Nat.le_refl _) (Nat.le_refl _) ⟨rfl, by rw [zL_pos (by rw [(lg_cmp_eq _ _).mp c_17]; decide)]⟩ | exact gr_lreturn dJ9_floorMod_f86c9_27 rfl (Nat.le_refl _) (Nat.le_refl _) ⟨rfl, by rw [zL_pos (l64_tm_pos ((l64_xor x).mp ((lg_cmp_ge _ _).mp c_10)))]⟩
    · refine gr_lload dJ9_floorMod_f86c9_20 rfl ?_
      refine gr_lload_n dJ9_floorMod_f86c9_22 rfl ?_
      refine gr_ladd dJ9_floorMod_f86c9_23 ?_
      exact gr_lreturn dJ9_floorMod_f86c9_24 rfl (Nat.le_refl _) (Nat.le_refl _) ⟨rfl, by rw [zL_neg (l64_tm_neg (fun z => c_10 ((lg_cmp_ge _ _).mpr ((l64_xor x).mpr z))) (fun z => c_17 ((lg_cmp_eq _ _).mpr z)))]⟩

set_option maxHeartbeats 4000000 in
set_option maxRecDepth 100000 in
theorem c_of (l : Launch) (E : ga_E) (d : Nat) (h : ga_H) (x : Int64) : ga_Ok l E (d + 1) mX3_of [.long x] h 0 0 (fun r h' => h' = h ∧ r = some (.int (nI (zL x).val))) := by
  refine ga_Ok.of 0 _ (by decide) rfl (Nat.le_of_ble_eq_true rfl) rfl ?_
  refine gr_lload_n dX3_of_0 rfl ?_
  refine gr_ldc2 dX3_of_1 kl_X3_9 ?_
  refine gr_callS dX3_of_4 (c_floorMod l E d h x) ysJ9_floorMod_f86c9 ⟨ml_X3_11, sm_J9_floorMod_f86c9⟩ rfl rfl (Nat.le_of_ble_eq_true rfl) ⟨(Nat.le_refl _), (Nat.le_refl _)⟩ ⟨(Nat.le_refl _), (Nat.le_refl _)⟩ (fun r h1 hp => ?_)
  obtain ⟨e1, rfl⟩ := hp
  subst h1
  refine gr_l2iN dX3_of_7 ?_
  exact gr_ireturn dX3_of_8 rfl (Nat.le_refl _) (Nat.le_refl _) ⟨rfl, rfl⟩

set_option maxHeartbeats 4000000 in
set_option maxRecDepth 100000 in
theorem c_quotient (l : Launch) (E : ga_E) (d : Nat) (h : ga_H) (x y : Int64) : ga_Ok l E (d + 2) mX3_quotient [.long x, .long y] h 0 0 (fun r h' => h' = h ∧ r = some (.int (nI (zL x * zinv (zL y)).val))) := by
  refine ga_Ok.of 0 _ (by decide) rfl (Nat.le_of_ble_eq_true rfl) rfl ?_
  refine gr_lload_n dX3_quotient_0 rfl ?_
  refine gr_callS dX3_quotient_1 (c_of l E d h x) ysX3_of ⟨ml_X3_17, sm_X3_of⟩ rfl rfl (Nat.le_of_ble_eq_true rfl) ⟨(Nat.le_refl _), (Nat.le_refl _)⟩ ⟨(Nat.le_refl _), (Nat.le_refl _)⟩ (fun r h1 hp => ?_)
  obtain ⟨e1, rfl⟩ := hp
  subst h1
  refine gr_lload_n dX3_quotient_4 rfl ?_
  refine gr_callS dX3_quotient_5 (c_of l E d h y) ysX3_of ⟨ml_X3_17, sm_X3_of⟩ rfl rfl (Nat.le_of_ble_eq_true rfl) ⟨(Nat.le_refl _), (Nat.le_refl _)⟩ ⟨(Nat.le_refl _), (Nat.le_refl _)⟩ (fun r h1 hp => ?_)
  obtain ⟨e1, rfl⟩ := hp
  subst h1
  refine gr_callS dX3_quotient_8 (c_inverse l E (d + 1) h (zL y)) ysX3_inverse ⟨ml_X3_23, sm_X3_inverse⟩ rfl rfl (Nat.le_of_ble_eq_true rfl) ⟨(Nat.le_refl _), (Nat.le_refl _)⟩ ⟨(Nat.le_refl _), (Nat.le_refl _)⟩ (fun r h1 hp => ?_)
  obtain ⟨e1, rfl⟩ := hp
  subst h1
  refine gr_mulP dX3_quotient_11 dX3_quotient_12 dX3_quotient_15 ?_
  exact gr_ireturn dX3_quotient_16 rfl (Nat.le_refl _) (Nat.le_refl _) ⟨rfl, rfl⟩

set_option maxHeartbeats 4000000 in
set_option maxRecDepth 100000 in
theorem c_max (l : Launch) (E : ga_E) (d : Nat) (h : ga_H) (x y : Int32) : ga_Ok l E d mJ9_max_7cf53 [.int x, .int y] h 0 0 (fun r h' => h' = h ∧ r = some (.int (if x < y then y else x))) := by
  refine ga_Ok.ofF 0 _ (by decide +kernel) rfl (Nat.le_of_ble_eq_true rfl) rfl ?_
  refine gr_iload_n dJ9_max_7cf53_0 rfl ?_
  refine gr_iload_n dJ9_max_7cf53_1 rfl ?_
  refine gr_icmplt 9 dJ9_max_7cf53_2 (by decide) (fun c_2 => ?_) (fun c_2 => ?_)
  · refine gr_iload_n dJ9_max_7cf53_9 rfl ?_
    exact gr_ireturn dJ9_max_7cf53_10 rfl (Nat.le_refl _) (Nat.le_refl _) ⟨rfl, by rw [if_pos c_2]⟩
  · refine gr_iload_n dJ9_max_7cf53_5 rfl ?_
    refine gr_goto 10 dJ9_max_7cf53_6 (by decide) ?_
    exact gr_ireturn dJ9_max_7cf53_10 rfl (Nat.le_refl _) (Nat.le_refl _) ⟨rfl, by rw [if_neg c_2]⟩

set_option maxHeartbeats 4000000 in
set_option maxRecDepth 100000 in
theorem c_min (l : Launch) (E : ga_E) (d : Nat) (h : ga_H) (x y : Int32) : ga_Ok l E d mJ9_min_7cf53 [.int x, .int y] h 0 0 (fun r h' => h' = h ∧ r = some (.int (if y < x then y else x))) := by
  refine ga_Ok.ofF 0 _ (by decide +kernel) rfl (Nat.le_of_ble_eq_true rfl) rfl ?_
  refine gr_iload_n dJ9_min_7cf53_0 rfl ?_
  refine gr_iload_n dJ9_min_7cf53_1 rfl ?_
  refine gr_icmpgt 9 dJ9_min_7cf53_2 (by decide) (fun c_2 => ?_) (fun c_2 => ?_)
  · refine gr_iload_n dJ9_min_7cf53_9 rfl ?_
    exact gr_ireturn dJ9_min_7cf53_10 rfl (Nat.le_refl _) (Nat.le_refl _) ⟨rfl, by rw [if_pos c_2]⟩
  · refine gr_iload_n dJ9_min_7cf53_5 rfl ?_
    refine gr_goto 10 dJ9_min_7cf53_6 (by decide) ?_
    exact gr_ireturn dJ9_min_7cf53_10 rfl (Nat.le_refl _) (Nat.le_refl _) ⟨rfl, by rw [if_neg c_2]⟩
end
section
/-! Blocks of cells: handles, their addresses A, their pictures c, laid over a heap -/
def ga_ov (h : ga_H) (A : Nat → Nat) (c : Nat → va_E) : Nat → ga_H
  | 0 => h
  | n + 1 => ga_up (ga_ov h A c n) (A n) (c n)
def ga_inj (A : Nat → Nat) (n : Nat) : Prop := ∀ i j : Nat, i < n → j < n → A i = A j → i = j
theorem ga_inj.ne {A : Nat → Nat} {n i j : Nat} (h : ga_inj A n) (hi : i < n) (hj : j < n) (e : i ≠ j) : A i ≠ A j := fun z => e (h i j hi hj z)
theorem ga_inj.le {A : Nat → Nat} {n m : Nat} (h : ga_inj A n) (hm : m ≤ n) : ga_inj A m := fun i j hi hj => h i j (by omega) (by omega)
theorem ga_ov_out {h : ga_H} {A : Nat → Nat} {c : Nat → va_E} {q : Nat} : ∀ {n : Nat}, (∀ k, k < n → q ≠ A k) → ga_ov h A c n q = h q
  | 0, _ => rfl
  | n + 1, hq => (ga_up_ne (hq n (Nat.lt_succ_self n))).trans (ga_ov_out (fun k hk => hq k (Nat.lt_succ_of_lt hk)))
theorem ga_ov_at {h : ga_H} {A : Nat → Nat} {c : Nat → va_E} {k : Nat} : ∀ {n : Nat}, ga_inj A n → k < n → ga_ov h A c n (A k) = some (c k)
  | 0, _, hk => absurd hk (by omega)
  | n + 1, hA, hk => by
    by_cases e : k = n
    · subst e; exact ga_up_eq
    · exact (ga_up_ne (hA.ne hk (Nat.lt_succ_self n) e)).trans (ga_ov_at (hA.le (Nat.le_succ n)) (by omega))
theorem ga_ov_congr {h : ga_H} {A : Nat → Nat} {c c' : Nat → va_E} : ∀ {n : Nat}, (∀ k, k < n → c k = c' k) → ga_ov h A c n = ga_ov h A c' n
  | 0, _ => rfl
  | n + 1, hc => by
    show ga_up (ga_ov h A c n) (A n) (c n) = ga_up (ga_ov h A c' n) (A n) (c' n)
    rw [ga_ov_congr (fun k hk => hc k (Nat.lt_succ_of_lt hk)), hc n (Nat.lt_succ_self n)]
theorem ga_ov_up {h : ga_H} {A : Nat → Nat} {c : Nat → va_E} {k : Nat} {x : va_E} : ∀ {n : Nat}, ga_inj A n → k < n → ga_up (ga_ov h A c n) (A k) x = ga_ov h A (va_up c k x) n
  | 0, _, hk => absurd hk (by omega)
  | n + 1, hA, hk => by
    by_cases e : k = n
    · subst e
      show ga_up (ga_up (ga_ov h A c k) (A k) (c k)) (A k) x = ga_up (ga_ov h A (va_up c k x) k) (A k) (va_up c k x k)
      rw [ga_up_up, show va_up c k x k = x from if_pos rfl, ga_ov_congr (c := c) (c' := va_up c k x) (fun j hj => (if_neg (by omega) : va_up c k x j = c j).symm)]
    · show ga_up (ga_up (ga_ov h A c n) (A n) (c n)) (A k) x = ga_up (ga_ov h A (va_up c k x) n) (A n) (va_up c k x n)
      rw [ga_up_comm _ _ _ (hA.ne (Nat.lt_succ_self n) hk (fun z => e z.symm)), ga_ov_up (hA.le (Nat.le_succ n)) (by omega), show va_up c k x n = c n from if_neg (fun z => e z.symm)]
theorem ga_ov_self {h : ga_H} {A : Nat → Nat} {c : Nat → va_E} : ∀ {n : Nat}, (∀ k, k < n → h (A k) = some (c k)) → ga_ov h A c n = h
  | 0, _ => rfl
  | n + 1, hc => by
    show ga_up (ga_ov h A c n) (A n) (c n) = h
    rw [ga_ov_self (fun k hk => hc k (Nat.lt_succ_of_lt hk)), ga_up_self (hc n (Nat.lt_succ_self n))]
/-- a block laid over a block that holds its handles -/
theorem ga_ov_sub {h : ga_H} {A B : Nat → Nat} {c d : Nat → va_E} {n : Nat} (hA : ga_inj A n) (ix : Nat → Nat) : ∀ {m : Nat}, (∀ k, k < m → ix k < n ∧ B k = A (ix k)) → ∃ c' : Nat → va_E, ga_ov (ga_ov h A c n) B d m = ga_ov h A c' n ∧ (∀ j, (∀ k, k < m → ix k ≠ j) → c' j = c j) ∧ ((∀ i j, i < m → j < m → ix i = ix j → i = j) → ∀ k, k < m → c' (ix k) = d k)
  | 0, _ => ⟨c, rfl, fun _ _ => rfl, fun _ k hk => absurd hk (by omega)⟩
  | m + 1, hB => by
    obtain ⟨c1, e1, e2, e3⟩ := ga_ov_sub (h := h) (c := c) (d := d) hA ix (m := m) (fun k hk => hB k (Nat.lt_succ_of_lt hk))
    obtain ⟨b1, b2⟩ := hB m (Nat.lt_succ_self m)
    refine ⟨va_up c1 (ix m) (d m), ?_, fun j hj => ?_, fun hi k hk => ?_⟩
    · show ga_up (ga_ov (ga_ov h A c n) B d m) (B m) (d m) = _
      rw [e1, b2, ga_ov_up hA b1]
    · rw [show va_up c1 (ix m) (d m) j = c1 j from if_neg (fun z => hj m (Nat.lt_succ_self m) z.symm)]
      exact e2 j (fun k hk => hj k (Nat.lt_succ_of_lt hk))
    · by_cases e : k = m
      · subst e; exact if_pos rfl
      · rw [show va_up c1 (ix m) (d m) (ix k) = c1 (ix k) from if_neg (fun z => e (hi k m hk (Nat.lt_succ_self m) z))]
        exact e3 (fun i j h1 h2 => hi i j (by omega) (by omega)) k (by omega)
/-- the cells of Roots: the object, found, remaining, part, piece, power, square -/
def roC (E : ga_E) (A : Nat → Nat) (n : Nat) (f r p i w s : Nat → zp) : Nat → va_E
  | 0 => ga_o 5 [.ref (A 1), .ref (A 2), .ref (A 3), .ref (A 4), .ref (A 5), .ref (A 6), .int (nI n)]
  | 1 => ga_f E 6 f
  | 2 => ga_f E 7 r
  | 3 => ga_f E 7 p
  | 4 => ga_f E 7 i
  | 5 => ga_f E 7 w
  | _ => ga_f E 13 s
def roH (E : ga_E) (h : ga_H) (A : Nat → Nat) (n : Nat) (f r p i w s : Nat → zp) : ga_H := ga_ov h A (roC E A n f r p i w s) 7
section RO
variable {E : ga_E} {h : ga_H} {A : Nat → Nat} {n : Nat} {f r p i w s : Nat → zp} (hA : ga_inj A 7)
theorem ro_0 (hA : ga_inj A 7) : roH E h A n f r p i w s (A 0) = some (ga_o 5 [.ref (A 1), .ref (A 2), .ref (A 3), .ref (A 4), .ref (A 5), .ref (A 6), .int (nI n)]) := ga_ov_at hA (by decide)
theorem ro_1 (hA : ga_inj A 7) : roH E h A n f r p i w s (A 1) = some (ga_f E 6 f) := ga_ov_at hA (by decide)
theorem ro_2 (hA : ga_inj A 7) : roH E h A n f r p i w s (A 2) = some (ga_f E 7 r) := ga_ov_at hA (by decide)
theorem ro_3 (hA : ga_inj A 7) : roH E h A n f r p i w s (A 3) = some (ga_f E 7 p) := ga_ov_at hA (by decide)
theorem ro_4 (hA : ga_inj A 7) : roH E h A n f r p i w s (A 4) = some (ga_f E 7 i) := ga_ov_at hA (by decide)
theorem ro_5 (hA : ga_inj A 7) : roH E h A n f r p i w s (A 5) = some (ga_f E 7 w) := ga_ov_at hA (by decide)
theorem ro_6 (hA : ga_inj A 7) : roH E h A n f r p i w s (A 6) = some (ga_f E 13 s) := ga_ov_at hA (by decide)
theorem ro_w {k : Nat} {x : va_E} {n' : Nat} {f' r' p' i' w' s' : Nat → zp} (hA : ga_inj A 7) (hk : k < 7) (e : ∀ j, j < 7 → va_up (roC E A n f r p i w s) k x j = roC E A n' f' r' p' i' w' s' j) : ga_up (roH E h A n f r p i w s) (A k) x = roH E h A n' f' r' p' i' w' s' := by
  unfold roH
  rw [ga_ov_up hA hk]
  exact ga_ov_congr e
theorem ro_w0 (hA : ga_inj A 7) (m : Nat) : ga_up (roH E h A n f r p i w s) (A 0) (ga_o 5 [.ref (A 1), .ref (A 2), .ref (A 3), .ref (A 4), .ref (A 5), .ref (A 6), .int (nI m)]) = roH E h A m f r p i w s := ro_w hA (by decide) (fun j hj => by rcases j with _ | _ | _ | _ | _ | _ | _ | j <;> first | rfl | omega)
theorem ro_w1 (hA : ga_inj A 7) (v : Nat → zp) : ga_up (roH E h A n f r p i w s) (A 1) (ga_f E 6 v) = roH E h A n v r p i w s := ro_w hA (by decide) (fun j hj => by rcases j with _ | _ | _ | _ | _ | _ | _ | j <;> first | rfl | omega)
theorem ro_w2 (hA : ga_inj A 7) (v : Nat → zp) : ga_up (roH E h A n f r p i w s) (A 2) (ga_f E 7 v) = roH E h A n f v p i w s := ro_w hA (by decide) (fun j hj => by rcases j with _ | _ | _ | _ | _ | _ | _ | j <;> first | rfl | omega)
theorem ro_w3 (hA : ga_inj A 7) (v : Nat → zp) : ga_up (roH E h A n f r p i w s) (A 3) (ga_f E 7 v) = roH E h A n f r v i w s := ro_w hA (by decide) (fun j hj => by rcases j with _ | _ | _ | _ | _ | _ | _ | j <;> first | rfl | omega)
theorem ro_w4 (hA : ga_inj A 7) (v : Nat → zp) : ga_up (roH E h A n f r p i w s) (A 4) (ga_f E 7 v) = roH E h A n f r p v w s := ro_w hA (by decide) (fun j hj => by rcases j with _ | _ | _ | _ | _ | _ | _ | j <;> first | rfl | omega)
theorem ro_w5 (hA : ga_inj A 7) (v : Nat → zp) : ga_up (roH E h A n f r p i w s) (A 5) (ga_f E 7 v) = roH E h A n f r p i v s := ro_w hA (by decide) (fun j hj => by rcases j with _ | _ | _ | _ | _ | _ | _ | j <;> first | rfl | omega)
theorem ro_w6 (hA : ga_inj A 7) (v : Nat → zp) : ga_up (roH E h A n f r p i w s) (A 6) (ga_f E 13 v) = roH E h A n f r p i w v := ro_w hA (by decide) (fun j hj => by rcases j with _ | _ | _ | _ | _ | _ | _ | j <;> first | rfl | omega)
end RO
end
section
/-! The field: Fermat by the kernel, inverses, sums -/
/-- x to the power whose binary digits are bs, modulo 32003, onto r -/
def pwb (x : Nat) : List Bool → Nat → Nat
  | [], r => r
  | b :: bs, r => pwb x bs (if b then r * r % 32003 * x % 32003 else r * r % 32003)
def pwe : List Bool → Nat → Nat
  | [], e => e
  | b :: bs, e => pwe bs (if b then 2 * e + 1 else 2 * e)
theorem pwb_eq (x : zp) : ∀ (bs : List Bool) (r e : Nat), zo r = zpow x e → zo (pwb x.val bs r) = zpow x (pwe bs e)
  | [], _, _, h => h
  | b :: bs, r, e, h => by
    have h2 : zo (r * r % 32003) = zpow x (2 * e) := by
      have : zo (r * r % 32003) = zo (r * r) := Fin.ext (by rw [zo_val, zo_val, Nat.mod_mod])
      rw [this, zo_mul, h, Nat.two_mul, zpow_add]
    unfold pwb pwe
    cases b with
    | false => exact pwb_eq x bs _ _ h2
    | true =>
      refine pwb_eq x bs _ _ ?_
      have : zo (r * r % 32003 * x.val % 32003) = zo (r * r % 32003 * x.val) := Fin.ext (by rw [zo_val, zo_val, Nat.mod_mod])
      show zo (r * r % 32003 * x.val % 32003) = zpow x (2 * e + 1)
      rw [this, zo_mul, h2, zo_self]
      rfl
def pw_bits : List Bool := [true, true, true, true, true, false, true, false, false, false, false, false, false, true, false]
theorem pw_bits_eq : pwe pw_bits 0 = 32002 := by decide
def pw_ok (x : Nat) : Bool := Nat.ble 16002 x || (Nat.beq (x % 2) 0 || (Nat.beq (x % 3) 0 || (Nat.beq (x % 5) 0 || (Nat.beq (x % 7) 0 || Nat.beq (pwb x pw_bits 1) 1))))
def pw_rng (lo : Nat) : Nat → Bool
  | 0 => pw_ok lo
  | k + 1 => pw_rng lo k && pw_rng (lo + 2 ^ k) k
theorem pw_rng_all : ∀ (k lo : Nat), pw_rng lo k = true → ∀ i, i < 2 ^ k → pw_ok (lo + i) = true
  | 0, lo, h, i, hi => by
    have : i = 0 := by simpa using hi
    subst this
    exact h
  | k + 1, lo, h, i, hi => by
    simp only [pw_rng, Bool.and_eq_true] at h
    rw [Nat.pow_succ] at hi
    by_cases c : i < 2 ^ k
    · exact pw_rng_all k lo h.1 i c
    · have := pw_rng_all k (lo + 2 ^ k) h.2 (i - 2 ^ k) (by omega)
      rwa [show lo + 2 ^ k + (i - 2 ^ k) = lo + i by omega] at this
set_option maxRecDepth 100000 in
theorem pw_all0 : pw_rng 0 11 = true := by decide +kernel
set_option maxRecDepth 100000 in
theorem pw_all1 : pw_rng 2048 11 = true := by decide +kernel
set_option maxRecDepth 100000 in
theorem pw_all2 : pw_rng 4096 11 = true := by decide +kernel
set_option maxRecDepth 100000 in
theorem pw_all3 : pw_rng 6144 11 = true := by decide +kernel
set_option maxRecDepth 100000 in
theorem pw_all4 : pw_rng 8192 11 = true := by decide +kernel
set_option maxRecDepth 100000 in
theorem pw_all5 : pw_rng 10240 11 = true := by decide +kernel
set_option maxRecDepth 100000 in
theorem pw_all6 : pw_rng 12288 11 = true := by decide +kernel
set_option maxRecDepth 100000 in
theorem pw_all7 : pw_rng 14336 11 = true := by decide +kernel
theorem pw_each {x : Nat} (h : x < 16002) : pw_ok x = true := by
  have key : ∀ t, t < 8 → pw_rng (2048 * t) 11 = true := fun t ht => by
    match t, ht with
    | 0, _ => exact pw_all0
    | 1, _ => exact pw_all1
    | 2, _ => exact pw_all2
    | 3, _ => exact pw_all3
    | 4, _ => exact pw_all4
    | 5, _ => exact pw_all5
    | 6, _ => exact pw_all6
    | 7, _ => exact pw_all7
    | t + 8, ht => omega
  have := pw_rng_all 11 (2048 * (x / 2048)) (key (x / 2048) (by omega)) (x % 2048) (by omega)
  rwa [show 2048 * (x / 2048) + x % 2048 = x by omega] at this
theorem pw_chain {x : Nat} (hx : x < 32003) (h : pwb x pw_bits 1 = 1) : zpow (zo x) 32002 = 1 := by
  have h2 := pwb_eq (zo x) pw_bits 1 0 rfl
  rw [pw_bits_eq, show (zo x).val = x from Nat.mod_eq_of_lt hx, h] at h2
  rw [← h2]; rfl
theorem pw_prod {a b : Nat} (ha : zpow (zo a) 32002 = 1) (hb : zpow (zo b) 32002 = 1) : zpow (zo (a * b)) 32002 = 1 := by
  rw [zo_mul, zpow_mul, ha, hb]; rfl
theorem pw_small : ∀ x : Nat, 0 < x → x < 16002 → zpow (zo x) 32002 = 1 := by
  intro x
  induction x using Nat.strongRecOn with
  | _ x ih =>
    intro h0 h1
    have hd : ∀ q : Nat, 1 < q → pwb q pw_bits 1 = 1 → q < 32003 → x % q = 0 → zpow (zo x) 32002 = 1 := fun q hq hc hq2 he => by
      have e : x = q * (x / q) := by have := Nat.div_add_mod x q; omega
      have hlt : x / q < x := Nat.div_lt_self h0 hq
      have hpos : 0 < x / q := by
        rcases Nat.eq_zero_or_pos (x / q) with z | z
        · rw [z] at e; omega
        · exact z
      rw [e]
      exact pw_prod (pw_chain hq2 hc) (ih (x / q) hlt hpos (by omega))
    have h := pw_each h1
    unfold pw_ok at h
    simp only [Bool.or_eq_true, Nat.beq_eq, Nat.ble_eq] at h
    rcases h with h | h | h | h | h | h
    · omega
    · exact hd 2 (by decide) (by decide) (by decide) h
    · exact hd 3 (by decide) (by decide) (by decide) h
    · exact hd 5 (by decide) (by decide) (by decide) h
    · exact hd 7 (by decide) (by decide) (by decide) h
    · exact pw_chain (by omega) h
theorem zpow_neg_even (x : zp) : ∀ n : Nat, zpow (-x) (2 * n) = zpow x (2 * n) := fun n => by
  rw [← zpow_sq, ← zpow_sq]
  congr 1
  grind
theorem fermat {x : zp} (h : x ≠ 0) : zpow x 32002 = 1 := by
  have h0 : x.val ≠ 0 := fun e => h (Fin.ext e)
  have hl := zl x
  by_cases c : x.val < 16002
  · have := pw_small x.val (by omega) c
    rwa [zo_self] at this
  · have e := zneg h0
    have := pw_small (-x).val (by omega) (by omega)
    rw [zo_self] at this
    exact (zpow_neg_even x 16001).symm.trans this
theorem zinv_mul {x : zp} (h : x ≠ 0) : x * zinv x = 1 := by
  have e : zpow x 32002 = zpow x 32001 * x := rfl
  rw [fermat h] at e
  rw [Fin.mul_comm]
  exact e.symm
theorem zno {x y : zp} (h : x * y = 0) : x = 0 ∨ y = 0 := by
  by_cases hx : x = 0
  · exact Or.inl hx
  · refine Or.inr ?_
    have h1 := zinv_mul hx
    have : y = (x * zinv x) * y := by rw [h1]; grind
    rw [this]
    have : x * zinv x * y = zinv x * (x * y) := by grind
    rw [this, h]
    grind
theorem zinv_ne {x : zp} (h : x ≠ 0) : zinv x ≠ 0 := fun e => by
  have := zinv_mul h
  rw [e, Fin.mul_zero] at this
  exact absurd this (by decide)
/-- a finite sum -/
def zs : Nat → (Nat → zp) → zp
  | 0, _ => 0
  | n + 1, f => zs n f + f n
theorem zs_congr {f g : Nat → zp} : ∀ {n : Nat}, (∀ i, i < n → f i = g i) → zs n f = zs n g
  | 0, _ => rfl
  | n + 1, h => by
    show zs n f + f n = zs n g + g n
    rw [zs_congr (fun i hi => h i (Nat.lt_succ_of_lt hi)), h n (Nat.lt_succ_self n)]
theorem zs_zero {f : Nat → zp} : ∀ {n : Nat}, (∀ i, i < n → f i = 0) → zs n f = 0
  | 0, _ => rfl
  | n + 1, h => by
    show zs n f + f n = 0
    rw [zs_zero (fun i hi => h i (Nat.lt_succ_of_lt hi)), h n (Nat.lt_succ_self n)]
    rfl
theorem zs_add (f g : Nat → zp) : ∀ n : Nat, zs n (fun i => f i + g i) = zs n f + zs n g
  | 0 => rfl
  | n + 1 => by
    show zs n _ + (f n + g n) = (zs n f + f n) + (zs n g + g n)
    rw [zs_add f g n]
    grind
theorem zs_mul (c : zp) (f : Nat → zp) : ∀ n : Nat, zs n (fun i => c * f i) = c * zs n f
  | 0 => by show (0 : zp) = c * 0; grind
  | n + 1 => by
    show zs n _ + c * f n = c * (zs n f + f n)
    rw [zs_mul c f n]
    grind
theorem zs_sub (f g : Nat → zp) (n : Nat) : zs n (fun i => f i - g i) = zs n f - zs n g := by
  have h := zs_add f (fun i => (-1 : zp) * g i) n
  rw [zs_mul] at h
  have : zs n (fun i => f i - g i) = zs n (fun i => f i + (-1 : zp) * g i) := zs_congr (fun i _ => by grind)
  rw [this, h]
  grind
theorem zs_one {f : Nat → zp} {k : Nat} : ∀ {n : Nat}, k < n → (∀ i, i < n → i ≠ k → f i = 0) → zs n f = f k
  | 0, h, _ => absurd h (by omega)
  | n + 1, h, hz => by
    show zs n f + f n = f k
    by_cases e : k = n
    · subst e
      rw [zs_zero (fun i hi => hz i (by omega) (by omega))]
      grind
    · rw [zs_one (by omega) (fun i hi hn => hz i (by omega) hn), hz n (by omega) (by omega)]
      grind
/-- all but one place -/
theorem zs_out (f : Nat → zp) {k n : Nat} (h : k < n) : zs n f = f k + zs n (fun i => if i = k then 0 else f i) := by
  have e : zs n f = zs n (fun i => (if i = k then f k else 0) + (if i = k then 0 else f i)) := zs_congr (fun i _ => by
    by_cases c : i = k
    · subst c; simp
    · simp [c])
  rw [e, zs_add, zs_one h (fun i _ hn => if_neg hn)]
  simp
end
section
/-! Roots: squares, powers of a linear polynomial -/
/-- 0 from n on -/
def pz (n : Nat) (v : Nat → zp) : Prop := ∀ j, n ≤ j → v j = 0
def pcut (n : Nat) (v : Nat → zp) : Nat → zp := fun j => if j < n then v j else 0
theorem pcut_z (n : Nat) (v : Nat → zp) : pz n (pcut n v) := fun j hj => if_neg (by omega)
theorem pz_up {n k : Nat} {v : Nat → zp} {x : zp} (h : pz n v) (hk : k < n) : pz n (va_up v k x) := fun j hj => (if_neg (by omega) : va_up v k x j = v j).trans (h j hj)
theorem pz_mon {n : Nat} {v : Nat → zp} (h : pz n v) : pz n (pmon v n) := fun j hj => by
  unfold pmon
  have := pdeg_le v n
  rw [if_neg (by omega)]
  exact h j hj
theorem pz_mul {n : Nat} {v : Nat → zp} {c : zp} (h : pz n v) : pz n (pmul v n c) := fun j hj => by
  unfold pmul
  rw [if_neg (by omega)]
  exact h j hj
theorem pz_step {n k p : Nat} {v w : Nat → zp} (h : pz n v) (hp : p < n) : pz n (pstep v w k p) := fun j hj => by
  unfold pstep
  rw [if_neg (by omega)]
  exact h j hj
theorem pz_prd {n k : Nat} {w : Nat → zp} : ∀ {q : Nat} {v : Nat → zp}, q ≤ n → pz n v → pz n (prd w k q v)
  | 0, _, _, h => h
  | q + 1, v, hq, h => by
    unfold prd
    split
    · exact h
    · exact pz_prd (by omega) (pz_step h (by omega))
theorem pz_red {n m : Nat} {v w : Nat → zp} (h : pz n v) : pz n (pred v n w m) := by
  unfold pred
  split
  · exact h
  · exact pz_prd (Nat.le_refl n) h
/-- the square of the first t numbers, in 13 places -/
def psqI (w : Nat → zp) (t i j : Nat) : Nat → zp := fun n => if n < 13 then zs i (fun a => zs t (fun b => if a + b = n then w a * w b else 0)) + zs j (fun b => if i + b = n then w i * w b else 0) else 0
def psq (w : Nat → zp) : Nat → zp := psqI w (pdeg w 7) (pdeg w 7) 0
def rqS (w m : Nat → zp) : Nat → zp := pred (psq w) 13 m 7
def rqW (w m : Nat → zp) : Nat → zp := pcut 7 (rqS w m)
theorem psqI_z (w : Nat → zp) (t i j : Nat) : pz 13 (psqI w t i j) := fun n hn => if_neg (by omega)
theorem psqI_up {w : Nat → zp} {t i j : Nat} (h : i + j < 13) : va_up (psqI w t i j) (i + j) (psqI w t i j (i + j) + w i * w j) = psqI w t i (j + 1) := by
  funext n; unfold va_up psqI
  by_cases e : n = i + j
  · subst e
    rw [if_pos rfl, if_pos h, if_pos h]
    show _ = _ + (zs j _ + (if i + j = i + j then w i * w j else 0))
    rw [if_pos rfl]
    grind
  · rw [if_neg e]
    split
    · show _ = _ + (zs j _ + (if i + j = n then w i * w j else 0))
      rw [if_neg (fun z => e z.symm)]
      grind
    · rfl
theorem psqI_next (w : Nat → zp) (t i : Nat) : psqI w t i t = psqI w t (i + 1) 0 := by
  funext n; unfold psqI
  split
  · show zs i _ + zs t _ = (zs i _ + zs t _) + 0
    grind
  · rfl
theorem psqI_00 (w : Nat → zp) (t : Nat) : psqI w t 0 0 = fun _ => 0 := by
  funext n; unfold psqI
  split <;> rfl
theorem zmad2 (s a b : zp) : zo (s.val + a.val * b.val) = s + a * b := by rw [zo_add, zo_mul, zo_self, zo_self, zo_self]
theorem cpy_f (f g : Nat → zp) (n : Nat) : va_cpy (fun j => nI (f j).val) (fun j => nI (g j).val) 0 0 n = fun j => nI ((fun j => if j < n then f j else g j) j).val := by
  funext j
  by_cases h : j < n
  · rw [pk_cpy_in (by omega) (by omega)]; simp [h]
  · rw [pk_cpy_out (by omega)]; simp [h]
theorem cpy_z {f g : Nat → zp} {n : Nat} (h : pz n g) : (fun j => if j < n then f j else g j) = pcut n f := by
  funext j; unfold pcut
  by_cases c : j < n
  · simp [c]
  · simp [c, h j (by omega)]
theorem pcut_self {n : Nat} {v : Nat → zp} (h : pz n v) : pcut n v = v := by
  funext j; unfold pcut
  by_cases c : j < n
  · simp [c]
  · simp [c, h j (by omega)]
section RC
variable {l : Launch} {E : ga_E} {M : ga_M} {R : Room} {Z : List Frame → Array Value → State → State → Prop} {pc : Nat} {lv : List (Option Value)} {st : List Value} {h : ga_H} {cells slots : Nat}
theorem gr_copyF {index a0 a n0 n1 n : Nat} {f g0 : Nat → zp} (hd : decode M.2.1 pc = .ok (.invokestatic index, 3)) (hw : Cond.methodLink M.1.cls index arraycopyName ∈ ga_Gl) (ha0 : h a0 = some (ga_f E n0 f)) (ha : h a = some (ga_f E n1 g0)) (h0 : n ≤ n0) (h1 : n1 = n) (hn : n0 < 2 ^ 31) (hR : 1 ≤ R.frames ∧ 64 ≤ R.locals) (hW : (st.map fun v => v.category).sum ≤ 8) (hz : pz n g0)
    (k : ga_G l E M R Z (pc + 3) lv st (ga_up h a (ga_f E n1 (pcut n f))) cells slots) : ga_G l E M R Z pc lv (.int (nI n) :: .int (nI 0) :: .ref a :: .int (nI 0) :: .ref a0 :: st) h cells slots := by
  refine gr_copy hd hw ha0 ha h0 (by omega) hn (by omega) hR hW ?_
  rw [cpy_f, cpy_z hz]
  exact k
end RC
theorem ro_m {E : ga_E} {h : ga_H} {A : Nat → Nat} {n mi : Nat} {f r p i w s m : Nat → zp} (hA : ga_inj A 7) (hm : mi = 2 ∧ m = r ∨ mi = 3 ∧ m = p) : roH E h A n f r p i w s (A mi) = some (ga_f E 7 m) := by
  rcases hm with ⟨rfl, rfl⟩ | ⟨rfl, rfl⟩
  · exact ro_2 hA
  · exact ro_3 hA
theorem ro_mne {A : Nat → Nat} {mi k : Nat} {r p m : Nat → zp} (hA : ga_inj A 7) (hm : mi = 2 ∧ m = r ∨ mi = 3 ∧ m = p) (hk : k < 7) (h2 : k ≠ 2) (h3 : k ≠ 3) : A mi ≠ A k := hA.ne (by omega) hk (by omega)

set_option maxHeartbeats 4000000 in
set_option maxRecDepth 100000 in
theorem c_sq_tail (l : Launch) (E : ga_E) (d : Nat) (h : ga_H) (A : Nat → Nat) (n : Nat) (f r p i w s m : Nat → zp) (mi : Nat) (hA : ga_inj A 7) (hm : mi = 2 ∧ m = r ∨ mi = 3 ∧ m = p) (hw : pz 7 w) (hs : pz 13 s) (x2 x3 x4 : Option Value) : ga_G l E mX5_squarePower (ga_Rm (d + 2) 0 0) (ga_Z E (fun r0 h' => h' = roH E h A n f r p i (rqW w m) (rqS w m) ∧ r0 = none) 0 0) 97 [some (.ref (A 0)), some (.ref (A mi)), x2, x3, x4] [] (roH E h A n f r p i w (psq w)) 0 0 := by
  refine gr_aload_n dX5_squarePower_97 rfl ?_
  refine gr_getf dX5_squarePower_98 cls_X5 5 (by decide) fl_X5_27 (ro_0 hA) rfl ?_
  refine gr_aload_n dX5_squarePower_101 rfl ?_
  refine gr_callS dX5_squarePower_102 (c_reduceBy l E d _ (A 6) (A mi) 13 7 _ m (ro_mne hA hm (by decide) (by decide) (by decide)) (ro_6 hA) (ro_m hA hm) (by decide) (by decide)) ysX4_reduceBy ⟨ml_X5_89, sm_X4_reduceBy⟩ rfl rfl (Nat.le_of_ble_eq_true rfl) ⟨(Nat.le_refl _), (Nat.le_refl _)⟩ ⟨(Nat.le_refl _), (Nat.le_refl _)⟩ (fun r0 h1 hp => ?_)
  obtain ⟨e1, rfl⟩ := hp
  subst h1
  rw [ro_w6 hA]
  refine gr_aload_n dX5_squarePower_105 rfl ?_
  refine gr_getf dX5_squarePower_106 cls_X5 5 (by decide) fl_X5_27 (ro_0 hA) rfl ?_
  refine gr_iconst (v := nI 0) dX5_squarePower_109 rfl ?_
  refine gr_aload_n dX5_squarePower_110 rfl ?_
  refine gr_getf dX5_squarePower_111 cls_X5 4 (by decide) fl_X5_24 (ro_0 hA) rfl ?_
  refine gr_iconst (v := nI 0) dX5_squarePower_114 rfl ?_
  refine gr_bipush (v := nI 7) dX5_squarePower_115 (by decide) ?_
  refine gr_copyF dX5_squarePower_117 ml_X5_72 (ro_6 hA) (ro_5 hA) (by decide) rfl (by decide) ⟨by show 1 ≤ d + 2; omega, by show 64 ≤ 64 * (d + 2); omega⟩ (Nat.le_of_ble_eq_true rfl) hw ?_
  rw [ro_w5 hA]
  exact gr_return dX5_squarePower_120 rfl (Nat.le_refl _) (Nat.le_refl _) ⟨rfl, rfl⟩

set_option maxHeartbeats 4000000 in
set_option maxRecDepth 100000 in
theorem c_sq_inner (l : Launch) (E : ga_E) (d : Nat) (h : ga_H) (A : Nat → Nat) (n : Nat) (f r p i w s m : Nat → zp) (mi : Nat) (hA : ga_inj A 7) (hm : mi = 2 ∧ m = r ∨ mi = 3 ∧ m = p) (hw : pz 7 w) (hs : pz 13 s) (t a : Nat) (ht : t < 7) (ha : a ≤ t) (k : ∀ x4 : Option Value, ga_G l E mX5_squarePower (ga_Rm (d + 2) 0 0) (ga_Z E (fun r0 h' => h' = roH E h A n f r p i (rqW w m) (rqS w m) ∧ r0 = none) 0 0) 91 [some (.ref (A 0)), some (.ref (A mi)), some (.int (nI t)), some (.int (nI a)), x4] [] (roH E h A n f r p i w (psqI w (t + 1) (a + 1) 0)) 0 0) : ∀ (g b : Nat), b + g = t + 1 → ga_G l E mX5_squarePower (ga_Rm (d + 2) 0 0) (ga_Z E (fun r0 h' => h' = roH E h A n f r p i (rqW w m) (rqS w m) ∧ r0 = none) 0 0) 42 [some (.ref (A 0)), some (.ref (A mi)), some (.int (nI t)), some (.int (nI a)), some (.int (nI b))] [] (roH E h A n f r p i w (psqI w (t + 1) a b)) 0 0 := by
  intro g
  induction g with
  | zero =>
    intro b hb
    refine gr_iload dX5_squarePower_42 rfl (gr_iload_n dX5_squarePower_44 rfl ?_)
    refine gr_icmpgtN 91 dX5_squarePower_45 (by decide) (by omega) (by omega) (fun _ => ?_) (fun z => absurd z (by omega))
    rw [show b = t + 1 by omega, psqI_next]
    exact k _
  | succ g ih =>
    intro b hb
    refine gr_iload dX5_squarePower_42 rfl (gr_iload_n dX5_squarePower_44 rfl ?_)
    refine gr_icmpgtN 91 dX5_squarePower_45 (by decide) (by omega) (by omega) (fun z => absurd z (by omega)) (fun _ => ?_)
    refine gr_aload_n dX5_squarePower_48 rfl ?_
    refine gr_getf dX5_squarePower_49 cls_X5 5 (by decide) fl_X5_27 (ro_0 hA) rfl ?_
    refine gr_iload_n dX5_squarePower_52 rfl ?_
    refine gr_iload dX5_squarePower_53 rfl ?_
    refine gr_iaddN dX5_squarePower_55 ?_
    refine gr_aload_n dX5_squarePower_56 rfl ?_
    refine gr_getf dX5_squarePower_57 cls_X5 5 (by decide) fl_X5_27 (ro_0 hA) rfl ?_
    refine gr_iload_n dX5_squarePower_60 rfl ?_
    refine gr_iload dX5_squarePower_61 rfl ?_
    refine gr_iaddN dX5_squarePower_63 ?_
    refine gr_ialoadF dX5_squarePower_64 (ro_6 hA) (by omega) (by decide) ?_
    refine gr_aload_n dX5_squarePower_65 rfl ?_
    refine gr_getf dX5_squarePower_66 cls_X5 4 (by decide) fl_X5_24 (ro_0 hA) rfl ?_
    refine gr_iload_n dX5_squarePower_69 rfl ?_
    refine gr_ialoadF dX5_squarePower_70 (ro_5 hA) (by omega) (by decide) ?_
    refine gr_aload_n dX5_squarePower_71 rfl ?_
    refine gr_getf dX5_squarePower_72 cls_X5 4 (by decide) fl_X5_24 (ro_0 hA) rfl ?_
    refine gr_iload dX5_squarePower_75 rfl ?_
    refine gr_ialoadF dX5_squarePower_77 (ro_5 hA) (by omega) (by decide) ?_
    refine gr_imulN dX5_squarePower_78 ?_
    refine gr_iaddN dX5_squarePower_79 ?_
    refine gr_remP dX5_squarePower_80 dX5_squarePower_83 (by have := zmul_lt (w a) (w b); have := zl (psqI w (t + 1) a b (a + b)); omega) (zmad2 _ _ _) ?_
    refine gr_iastoreF dX5_squarePower_84 (ro_6 hA) (by omega) (by decide) ?_
    rw [psqI_up (by omega), ro_w6 hA]
    refine gr_iinc (v := nI (_ + 1)) dX5_squarePower_85 rfl (nI_1 _) (by decide) rfl ?_
    refine gr_goto 42 dX5_squarePower_88 (by decide) ?_
    exact ih (b + 1) (by omega)

set_option maxHeartbeats 4000000 in
set_option maxRecDepth 100000 in
theorem c_sq_outer (l : Launch) (E : ga_E) (d : Nat) (h : ga_H) (A : Nat → Nat) (n : Nat) (f r p i w s m : Nat → zp) (mi : Nat) (hA : ga_inj A 7) (hm : mi = 2 ∧ m = r ∨ mi = 3 ∧ m = p) (hw : pz 7 w) (hs : pz 13 s) (t : Nat) (ht : pdeg w 7 = t + 1) (ht7 : t < 7) : ∀ (g a : Nat) (x4 : Option Value), a + g = t + 1 → ga_G l E mX5_squarePower (ga_Rm (d + 2) 0 0) (ga_Z E (fun r0 h' => h' = roH E h A n f r p i (rqW w m) (rqS w m) ∧ r0 = none) 0 0) 34 [some (.ref (A 0)), some (.ref (A mi)), some (.int (nI t)), some (.int (nI a)), x4] [] (roH E h A n f r p i w (psqI w (t + 1) a 0)) 0 0 := by
  intro g
  induction g with
  | zero =>
    intro a x4 ha
    refine gr_iload_n dX5_squarePower_34 rfl (gr_iload_n dX5_squarePower_35 rfl ?_)
    refine gr_icmpgtN 97 dX5_squarePower_36 (by decide) (by omega) (by omega) (fun _ => ?_) (fun z => absurd z (by omega))
    have e : psqI w (t + 1) a 0 = psq w := by unfold psq; rw [ht, show a = t + 1 by omega]
    rw [e]
    exact c_sq_tail l E d h A n f r p i w s m mi hA hm hw hs _ _ _
  | succ g ih =>
    intro a x4 ha
    refine gr_iload_n dX5_squarePower_34 rfl (gr_iload_n dX5_squarePower_35 rfl ?_)
    refine gr_icmpgtN 97 dX5_squarePower_36 (by decide) (by omega) (by omega) (fun z => absurd z (by omega)) (fun _ => ?_)
    refine gr_iconst (v := nI 0) dX5_squarePower_39 rfl (gr_istore dX5_squarePower_40 (by decide) rfl ?_)
    refine c_sq_inner l E d h A n f r p i w s m mi hA hm hw hs t a ht7 (by omega) (fun y4 => ?_) (t + 1) 0 (by omega)
    refine gr_iinc (v := nI (_ + 1)) dX5_squarePower_91 rfl (nI_1 _) (by decide) rfl ?_
    refine gr_goto 34 dX5_squarePower_94 (by decide) ?_
    exact ih (a + 1) _ (by omega)

set_option maxHeartbeats 4000000 in
set_option maxRecDepth 100000 in
theorem c_sq_fill (l : Launch) (E : ga_E) (d : Nat) (h : ga_H) (A : Nat → Nat) (n : Nat) (f r p i w s m : Nat → zp) (mi : Nat) (hA : ga_inj A 7) (hm : mi = 2 ∧ m = r ∨ mi = 3 ∧ m = p) (hw : pz 7 w) (hs : pz 13 s) : ∀ (g : Nat) (s1 : Nat → zp) (b : Nat), b + g = 13 → (∀ j, j < b → s1 j = 0) → pz 13 s1 → ga_G l E mX5_squarePower (ga_Rm (d + 2) 0 0) (ga_Z E (fun r0 h' => h' = roH E h A n f r p i (rqW w m) (rqS w m) ∧ r0 = none) 0 0) 2 [some (.ref (A 0)), some (.ref (A mi)), some (.int (nI b)), none, none] [] (roH E h A n f r p i w s1) 0 0 := by
  intro g
  induction g with
  | zero =>
    intro s1 b hb hlt hs1
    refine gr_iload_n dX5_squarePower_2 rfl (gr_aload_n dX5_squarePower_3 rfl (gr_getf dX5_squarePower_4 cls_X5 5 (by decide) fl_X5_27 (ro_0 hA) rfl (gr_alen_i dX5_squarePower_7 (ro_6 hA) ?_)))
    refine gr_icmpgeN 24 dX5_squarePower_8 (by decide) (by omega) (by omega) (fun _ => ?_) (fun z => absurd z (by omega))
    have e0 : s1 = fun _ => 0 := by
      funext j
      by_cases c : j < b
      · exact hlt j c
      · exact hs1 j (by omega)
    refine gr_aload_n dX5_squarePower_24 rfl ?_
    refine gr_getf dX5_squarePower_25 cls_X5 4 (by decide) fl_X5_24 (ro_0 hA) rfl ?_
    refine gr_callS dX5_squarePower_28 (c_degree l E (d + 1) _ (A 5) 7 w (ro_5 hA) (by decide)) ysX4_degree ⟨ml_X5_43, sm_X4_degree⟩ rfl rfl (Nat.le_of_ble_eq_true rfl) ⟨(Nat.le_refl _), (Nat.le_refl _)⟩ ⟨(Nat.le_refl _), (Nat.le_refl _)⟩ (fun r0 h1 hp => ?_)
    obtain ⟨e1, rfl⟩ := hp
    subst h1
    have hle := pdeg_le w 7
    rcases hk : pdeg w 7 with _ | t
    · refine gr_istore_n dX5_squarePower_31 (by decide) rfl (gr_iconst (v := nI 0) dX5_squarePower_32 rfl (gr_istore_n dX5_squarePower_33 (by decide) rfl ?_))
      refine gr_iload_n dX5_squarePower_34 rfl (gr_iload_n dX5_squarePower_35 rfl ?_)
      refine gr_icmpgt 97 dX5_squarePower_36 (by decide) (fun _ => ?_) (fun z => absurd (by decide) z)
      have e : s1 = psq w := by unfold psq; rw [hk, psqI_00, e0]
      rw [e]
      exact c_sq_tail l E d h A n f r p i w s m mi hA hm hw hs _ _ _
    · rw [hk] at hle
      refine gr_top (congrArg Value.int (dn_top t)) ?_
      refine gr_istore_n dX5_squarePower_31 (by decide) rfl (gr_iconst (v := nI 0) dX5_squarePower_32 rfl (gr_istore_n dX5_squarePower_33 (by decide) rfl ?_))
      rw [e0, ← psqI_00 w (t + 1)]
      exact c_sq_outer l E d h A n f r p i w s m mi hA hm hw hs t hk (by omega) (t + 1) 0 _ (by omega)
  | succ g ih =>
    intro s1 b hb hlt hs1
    refine gr_iload_n dX5_squarePower_2 rfl (gr_aload_n dX5_squarePower_3 rfl (gr_getf dX5_squarePower_4 cls_X5 5 (by decide) fl_X5_27 (ro_0 hA) rfl (gr_alen_i dX5_squarePower_7 (ro_6 hA) ?_)))
    refine gr_icmpgeN 24 dX5_squarePower_8 (by decide) (by omega) (by omega) (fun z => absurd z (by omega)) (fun _ => ?_)
    refine gr_aload_n dX5_squarePower_11 rfl ?_
    refine gr_getf dX5_squarePower_12 cls_X5 5 (by decide) fl_X5_27 (ro_0 hA) rfl ?_
    refine gr_iload_n dX5_squarePower_15 rfl ?_
    refine gr_iconst (v := nI (0 : zp).val) dX5_squarePower_16 rfl ?_
    refine gr_iastoreF (x := 0) dX5_squarePower_17 (ro_6 hA) (by omega) (by decide) ?_
    rw [ro_w6 hA]
    refine gr_iinc (v := nI (_ + 1)) dX5_squarePower_18 rfl (nI_1 _) (by decide) rfl ?_
    refine gr_goto 2 dX5_squarePower_21 (by decide) ?_
    refine ih _ (b + 1) (by omega) (fun j hj => ?_) (pz_up hs1 (by omega))
    by_cases e : j = b
    · exact if_pos e
    · exact (if_neg e : va_up s1 b 0 j = s1 j).trans (hlt j (by omega))

set_option maxHeartbeats 4000000 in
set_option maxRecDepth 100000 in
theorem c_squarePower (l : Launch) (E : ga_E) (d : Nat) (h : ga_H) (A : Nat → Nat) (n : Nat) (f r p i w s m : Nat → zp) (mi : Nat) (hA : ga_inj A 7) (hm : mi = 2 ∧ m = r ∨ mi = 3 ∧ m = p) (hw : pz 7 w) (hs : pz 13 s) : ga_Ok l E (d + 2) mX5_squarePower [.ref (A 0), .ref (A mi)] (roH E h A n f r p i w s) 0 0 (fun r0 h' => h' = roH E h A n f r p i (rqW w m) (rqS w m) ∧ r0 = none) := by
  refine ga_Ok.of 3 _ (by decide) rfl (Nat.le_of_ble_eq_true rfl) rfl ?_
  refine gr_iconst (v := nI 0) dX5_squarePower_0 rfl (gr_istore_n dX5_squarePower_1 (by decide) rfl ?_)
  exact c_sq_fill l E d h A n f r p i w s m mi hA hm hw hs 13 s 0 (by omega) (fun j hj => absurd hj (by omega)) hs
end
section
/-! Roots: powers of a linear polynomial; the common divisor -/
/-- the power's row behind k bits more -/
def rlS (c : zp) (e : Nat) (m : Nat → zp) : Nat → (Nat → zp) → (Nat → zp)
  | 0, w => w
  | k + 1, w => rlS c e m k (if e / 2 ^ k % 2 = 1 then pred (pmul (rqW w m) 7 c) 7 m 7 else rqW w m)
def rl1 : Nat → zp := fun j => if j = 0 then 1 else 0
theorem sh15 : ∀ b, b < 15 → ((nI b &&& 31).toBitVec.smod 32).toNat = b := by decide
theorem pz_rqW (w m : Nat → zp) : pz 7 (rqW w m) := pcut_z 7 _
theorem pz_rqS (w m : Nat → zp) : pz 13 (rqS w m) := pz_red (psqI_z w _ _ _)

set_option maxHeartbeats 4000000 in
set_option maxRecDepth 100000 in
theorem c_rl_loop (l : Launch) (E : ga_E) (d : Nat) (h : ga_H) (A : Nat → Nat) (n : Nat) (f r p i m : Nat → zp) (mi : Nat) (hA : ga_inj A 7) (hm : mi = 2 ∧ m = r ∨ mi = 3 ∧ m = p) (c : zp) (e : Nat) (he : e < 2 ^ 15) : ∀ (k : Nat) (w s : Nat → zp), k ≤ 15 → pz 7 w → pz 13 s → rlS c e m k w = rlS c e m 15 rl1 → ga_G l E mX5_raiseLinear (ga_Rm (d + 3) 0 0) (ga_Z E (fun r0 h' => ∃ s', pz 13 s' ∧ h' = roH E h A n f r p i (rlS c e m 15 rl1) s' ∧ r0 = none) 0 0) 37 [some (.ref (A 0)), some (.int (nI c.val)), some (.int (nI e)), some (.ref (A mi)), some (.int (nI k - nI 1))] [] (roH E h A n f r p i w s) 0 0 := by
  intro k
  induction k with
  | zero =>
    intro w s _ hw hs hr
    refine gr_iload dX5_raiseLinear_37 rfl ?_
    refine gr_iflt 79 dX5_raiseLinear_39 (by decide) (fun _ => ?_) (fun z => absurd ((dn_neg (by decide)).mpr rfl) z)
    exact gr_return dX5_raiseLinear_79 rfl (Nat.le_refl _) (Nat.le_refl _) ⟨s, hs, by rw [← hr]; rfl, rfl⟩
  | succ k ih =>
    intro w s hk hw hs hr
    rw [dn_top]
    refine gr_iload dX5_raiseLinear_37 rfl ?_
    refine gr_ifltN dX5_raiseLinear_39 79 (by decide) (by omega) ?_
    refine gr_aload_n dX5_raiseLinear_42 rfl ?_
    refine gr_aload_n dX5_raiseLinear_43 rfl ?_
    refine gr_callV dX5_raiseLinear_44 (c_squarePower l E d h A n f r p i w s m mi hA hm hw hs) ysX5_squarePower ⟨ml_X5_82, im_X5_squarePower, sl_X5_squarePower⟩ (ro_0 hA) (show vwCl[5]? = some (RX5, TX5, _) from rfl) rfl rfl (Nat.le_of_ble_eq_true rfl) ⟨(Nat.le_refl _), (Nat.le_refl _)⟩ ⟨(Nat.le_refl _), (Nat.le_refl _)⟩ (fun r0 h1 hp => ?_)
    obtain ⟨e1, rfl⟩ := hp
    subst h1
    refine gr_iload_n dX5_raiseLinear_47 rfl ?_
    refine gr_iload dX5_raiseLinear_48 rfl ?_
    refine gr_ishr dX5_raiseLinear_50 (gr_top (congrArg Value.int (pk_shrN (n := e) (by omega) _ k (sh15 k (by omega)))) ?_)
    refine gr_iconst (v := nI 1) dX5_raiseLinear_51 rfl ?_
    refine gr_iand dX5_raiseLinear_52 (gr_top (congrArg Value.int (pk_andN (n := e / 2 ^ k) (Nat.lt_of_le_of_lt (Nat.div_le_self e (2 ^ k)) (by omega)) 1 (by decide))) ?_)
    refine gr_iconst (v := nI 1) dX5_raiseLinear_53 rfl ?_
    refine gr_icmpneN 73 dX5_raiseLinear_54 (by decide) (by omega) (by decide) (fun c_54 => ?_) (fun c_54 => ?_)
    · refine gr_iinc (v := nI k - nI 1) dX5_raiseLinear_73 rfl (dn_step k) (by decide) rfl ?_
      refine gr_goto 37 dX5_raiseLinear_76 (by decide) ?_
      refine ih _ _ (by omega) ?_ (pz_rqS w m) ?_
      · first | exact pz_rqW w m | exact pz_red (pz_mul (pz_rqW w m))
      · rw [← hr]
        show _ = rlS c e m k (if e / 2 ^ k % 2 = 1 then _ else _)
        first | rw [if_neg c_54] | rw [if_pos c_54]
    · refine gr_aload_n dX5_raiseLinear_57 rfl ?_
      refine gr_getf dX5_raiseLinear_58 cls_X5 4 (by decide) fl_X5_24 (ro_0 hA) rfl ?_
      refine gr_iload_n dX5_raiseLinear_61 rfl ?_
      refine gr_callS dX5_raiseLinear_62 (c_mulLin l E (d + 2) _ (A 5) 7 _ c (ro_5 hA) (by decide) (by decide)) ysX4_multiplyByLinear ⟨ml_X5_85, sm_X4_multiplyByLinear⟩ rfl rfl (Nat.le_of_ble_eq_true rfl) ⟨(Nat.le_refl _), (Nat.le_refl _)⟩ ⟨(Nat.le_refl _), (Nat.le_refl _)⟩ (fun r0 h1 hp => ?_)
      obtain ⟨e1, rfl⟩ := hp
      subst h1
      rw [ro_w5 hA]
      refine gr_aload_n dX5_raiseLinear_65 rfl ?_
      refine gr_getf dX5_raiseLinear_66 cls_X5 4 (by decide) fl_X5_24 (ro_0 hA) rfl ?_
      refine gr_aload_n dX5_raiseLinear_69 rfl ?_
      refine gr_callS dX5_raiseLinear_70 (c_reduceBy l E (d + 1) _ (A 5) (A mi) 7 7 _ m (ro_mne hA hm (by decide) (by decide) (by decide)) (ro_5 hA) (ro_m hA hm) (by decide) (by decide)) ysX4_reduceBy ⟨ml_X5_89, sm_X4_reduceBy⟩ rfl rfl (Nat.le_of_ble_eq_true rfl) ⟨(Nat.le_refl _), (Nat.le_refl _)⟩ ⟨(Nat.le_refl _), (Nat.le_refl _)⟩ (fun r0 h1 hp => ?_)
      obtain ⟨e1, rfl⟩ := hp
      subst h1
      rw [ro_w5 hA]
      refine gr_iinc (v := nI k - nI 1) dX5_raiseLinear_73 rfl (dn_step k) (by decide) rfl ?_
      refine gr_goto 37 dX5_raiseLinear_76 (by decide) ?_
      refine ih _ _ (by omega) ?_ (pz_rqS w m) ?_
      · first | exact pz_rqW w m | exact pz_red (pz_mul (pz_rqW w m))
      · rw [← hr]
        show _ = rlS c e m k (if e / 2 ^ k % 2 = 1 then _ else _)
        first | rw [if_neg c_54] | rw [if_pos c_54]

set_option maxHeartbeats 4000000 in
set_option maxRecDepth 100000 in
theorem c_rl_fill (l : Launch) (E : ga_E) (d : Nat) (h : ga_H) (A : Nat → Nat) (n : Nat) (f r p i m : Nat → zp) (mi : Nat) (hA : ga_inj A 7) (hm : mi = 2 ∧ m = r ∨ mi = 3 ∧ m = p) (c : zp) (e : Nat) (he : e < 2 ^ 15) (s : Nat → zp) (hs : pz 13 s) : ∀ (g : Nat) (w : Nat → zp) (b : Nat), b + g = 7 → (∀ j, j < b → w j = rl1 j) → pz 7 w → ga_G l E mX5_raiseLinear (ga_Rm (d + 3) 0 0) (ga_Z E (fun r0 h' => ∃ s', pz 13 s' ∧ h' = roH E h A n f r p i (rlS c e m 15 rl1) s' ∧ r0 = none) 0 0) 3 [some (.ref (A 0)), some (.int (nI c.val)), some (.int (nI e)), some (.ref (A mi)), some (.int (nI b))] [] (roH E h A n f r p i w s) 0 0 := by
  intro g
  induction g with
  | zero =>
    intro w b hb hlt hw
    refine gr_iload dX5_raiseLinear_3 rfl (gr_bipush (v := nI 7) dX5_raiseLinear_5 (by decide) ?_)
    refine gr_icmpgeN 33 dX5_raiseLinear_7 (by decide) (by omega) (by omega) (fun _ => ?_) (fun z => absurd z (by omega))
    have e0 : w = rl1 := by
      funext j
      by_cases c : j < b
      · exact hlt j c
      · rw [hw j (by omega)]; unfold rl1; rw [if_neg (by omega)]
    subst e0
    refine gr_bipush (v := nI 15 - nI 1) dX5_raiseLinear_33 (by decide) (gr_istore dX5_raiseLinear_35 (by decide) rfl ?_)
    exact c_rl_loop l E d h A n f r p i m mi hA hm c e he 15 rl1 s (by omega) hw hs rfl
  | succ g ih =>
    intro w b hb hlt hw
    refine gr_iload dX5_raiseLinear_3 rfl (gr_bipush (v := nI 7) dX5_raiseLinear_5 (by decide) ?_)
    refine gr_icmpgeN 33 dX5_raiseLinear_7 (by decide) (by omega) (by omega) (fun z => absurd z (by omega)) (fun _ => ?_)
    refine gr_aload_n dX5_raiseLinear_10 rfl (gr_getf dX5_raiseLinear_11 cls_X5 4 (by decide) fl_X5_24 (ro_0 hA) rfl (gr_iload dX5_raiseLinear_14 rfl (gr_iload dX5_raiseLinear_16 rfl ?_)))
    have go : ∀ x : zp, x = rl1 b → ga_G l E mX5_raiseLinear (ga_Rm (d + 3) 0 0) (ga_Z E (fun r0 h' => ∃ s', pz 13 s' ∧ h' = roH E h A n f r p i (rlS c e m 15 rl1) s' ∧ r0 = none) 0 0) 26 [some (.ref (A 0)), some (.int (nI c.val)), some (.int (nI e)), some (.ref (A mi)), some (.int (nI b))] [.int (nI x.val), .int (nI b), .ref (A 5)] (roH E h A n f r p i w s) 0 0 := fun x hx => by
      refine gr_iastoreF dX5_raiseLinear_26 (ro_5 hA) (by omega) (by decide) ?_
      rw [ro_w5 hA]
      refine gr_iinc (v := nI (_ + 1)) dX5_raiseLinear_27 rfl (nI_1 _) (by decide) rfl ?_
      refine gr_goto 3 dX5_raiseLinear_30 (by decide) ?_
      refine ih _ (b + 1) (by omega) (fun j hj => ?_) (pz_up hw (by omega))
      by_cases e : j = b
      · rw [show va_up w b x j = x from if_pos e, hx, e]
      · exact (if_neg e : va_up w b x j = w j).trans (hlt j (by omega))
    refine gr_ifneN 25 dX5_raiseLinear_18 (by decide) (by omega) (fun c_18 => ?_) (fun c_18 => ?_)
    · refine gr_iconst (v := nI (0 : zp).val) dX5_raiseLinear_25 rfl ?_
      exact go 0 (by unfold rl1; rw [if_neg c_18])
    · refine gr_iconst (v := nI (1 : zp).val) dX5_raiseLinear_21 rfl (gr_goto 26 dX5_raiseLinear_22 (by decide) ?_)
      exact go 1 (by unfold rl1; rw [if_pos c_18])

set_option maxHeartbeats 4000000 in
set_option maxRecDepth 100000 in
theorem c_raiseLinear (l : Launch) (E : ga_E) (d : Nat) (h : ga_H) (A : Nat → Nat) (n : Nat) (f r p i m : Nat → zp) (mi : Nat) (hA : ga_inj A 7) (hm : mi = 2 ∧ m = r ∨ mi = 3 ∧ m = p) (c : zp) (e : Nat) (he : e < 2 ^ 15) (w s : Nat → zp) (hw : pz 7 w) (hs : pz 13 s) : ga_Ok l E (d + 3) mX5_raiseLinear [.ref (A 0), .int (nI c.val), .int (nI e), .ref (A mi)] (roH E h A n f r p i w s) 0 0 (fun r0 h' => ∃ s', pz 13 s' ∧ h' = roH E h A n f r p i (rlS c e m 15 rl1) s' ∧ r0 = none) := by
  refine ga_Ok.of 1 _ (by decide) rfl (Nat.le_of_ble_eq_true rfl) rfl ?_
  refine gr_iconst (v := nI 0) dX5_raiseLinear_0 rfl (gr_istore dX5_raiseLinear_1 (by decide) rfl ?_)
  exact c_rl_fill l E d h A n f r p i m mi hA hm c e he s hs 7 w 0 (by omega) (fun j hj => absurd hj (by omega)) hw

/-- the common divisor: k turns at most -/
def gcR : Nat → (Nat → zp) → (Nat → zp) → (Nat → zp)
  | 0, u, _ => u
  | k + 1, u, v => if pdeg v 7 = 0 then u else gcR k (pmon v 7) (pred u 7 (pmon v 7) 7)
theorem gc_swap {h : ga_H} {x y : Nat} {a b c : va_E} (n : x ≠ y) : ga_up (ga_up (ga_up h x a) y b) x c = ga_up (ga_up h y b) x c := by
  rw [ga_up_comm _ _ _ n, ga_up_up]

set_option maxHeartbeats 4000000 in
set_option maxRecDepth 100000 in
theorem c_gc_end (l : Launch) (E : ga_E) (d : Nat) (h : ga_H) (a b : Nat) (hab : a ≠ b) (x y : Nat) (u v : Nat → zp) (hu : pz 7 u) (hv : pz 7 v) (hxy : x = a ∧ y = b ∨ x = b ∧ y = a) (x4 x5 : Option Value) : ga_G l E mX5_keepCommonDivisor (ga_Rm (d + 2) 0 0) (ga_Z E (fun r0 h' => ∃ J, pz 7 J ∧ h' = ga_up (ga_up h b (ga_f E 7 J)) a (ga_f E 7 u) ∧ r0 = none) 0 0) 44 [some (.ref a), some (.ref b), some (.ref x), some (.ref y), x4, x5] [] (ga_up (ga_up h x (ga_f E 7 u)) y (ga_f E 7 v)) 0 0 := by
  have hba : b ≠ a := fun z => hab z.symm
  refine gr_aload_n dX5_keepCommonDivisor_44 rfl (gr_iconst (v := nI 0) dX5_keepCommonDivisor_45 rfl (gr_aload_n dX5_keepCommonDivisor_46 rfl (gr_iconst (v := nI 0) dX5_keepCommonDivisor_47 rfl (gr_bipush (v := nI 7) dX5_keepCommonDivisor_48 (by decide) ?_))))
  rcases hxy with ⟨rfl, rfl⟩ | ⟨rfl, rfl⟩
  · refine gr_copyF dX5_keepCommonDivisor_50 ml_X5_72 (by rw [ga_up_ne hab]; exact ga_up_eq) (by rw [ga_up_ne hab]; exact ga_up_eq) (by decide) rfl (by decide) ⟨by show 1 ≤ d + 2; omega, by show 64 ≤ 64 * (d + 2); omega⟩ (Nat.le_of_ble_eq_true rfl) hu ?_
    rw [pcut_self hu, gc_swap hab]
    exact gr_return dX5_keepCommonDivisor_53 rfl (Nat.le_refl _) (Nat.le_refl _) ⟨v, hv, rfl, rfl⟩
  · refine gr_copyF dX5_keepCommonDivisor_50 ml_X5_72 (by rw [ga_up_ne hba]; exact ga_up_eq) ga_up_eq (by decide) rfl (by decide) ⟨by show 1 ≤ d + 2; omega, by show 64 ≤ 64 * (d + 2); omega⟩ (Nat.le_of_ble_eq_true rfl) hv ?_
    rw [pcut_self hu, ga_up_up]
    exact gr_return dX5_keepCommonDivisor_53 rfl (Nat.le_refl _) (Nat.le_refl _) ⟨u, hu, rfl, rfl⟩

theorem gc_or {p q r s : Prop} (h : (p ∧ q) ∨ (r ∧ s)) : (q ∧ p) ∨ (s ∧ r) := h.elim (fun z => Or.inl ⟨z.2, z.1⟩) (fun z => Or.inr ⟨z.2, z.1⟩)

set_option maxHeartbeats 4000000 in
set_option maxRecDepth 100000 in
theorem c_gc_loop (l : Launch) (E : ga_E) (d : Nat) (h : ga_H) (a b : Nat) (hab : a ≠ b) (G : Nat → zp) : ∀ (g : Nat) (x y : Nat) (u v : Nat → zp) (b1 : Nat) (x5 : Option Value), b1 + g = 8 → pz 7 u → pz 7 v → x ≠ y → (x = a ∧ y = b ∨ x = b ∧ y = a) → gcR g u v = G → ga_G l E mX5_keepCommonDivisor (ga_Rm (d + 2) 0 0) (ga_Z E (fun r0 h' => ∃ J, pz 7 J ∧ h' = ga_up (ga_up h b (ga_f E 7 J)) a (ga_f E 7 G) ∧ r0 = none) 0 0) 7 [some (.ref a), some (.ref b), some (.ref x), some (.ref y), some (.int (nI b1)), x5] [] (ga_up (ga_up h x (ga_f E 7 u)) y (ga_f E 7 v)) 0 0 := by
  intro g
  induction g with
  | zero =>
    intro x y u v b1 x5 hb hu hv hne hxy hr
    refine gr_iload dX5_keepCommonDivisor_7 rfl (gr_bipush (v := nI 7) dX5_keepCommonDivisor_9 (by decide) ?_)
    refine gr_icmpgtN 44 dX5_keepCommonDivisor_11 (by decide) (by omega) (by decide) (fun _ => ?_) (fun z => absurd z (by omega))
    rw [← hr]
    exact c_gc_end l E d h a b hab x y u v hu hv hxy _ _
  | succ g ih =>
    intro x y u v b1 x5 hb hu hv hne hxy hr
    have hyx : y ≠ x := fun z => hne z.symm
    refine gr_iload dX5_keepCommonDivisor_7 rfl (gr_bipush (v := nI 7) dX5_keepCommonDivisor_9 (by decide) ?_)
    refine gr_icmpgtN 44 dX5_keepCommonDivisor_11 (by decide) (by omega) (by decide) (fun z => absurd z (by omega)) (fun _ => ?_)
    refine gr_aload_n dX5_keepCommonDivisor_14 rfl ?_
    refine gr_callS dX5_keepCommonDivisor_15 (c_degree l E (d + 1) _ y 7 v ga_up_eq (by decide)) ysX4_degree ⟨ml_X5_43, sm_X4_degree⟩ rfl rfl (Nat.le_of_ble_eq_true rfl) ⟨(Nat.le_refl _), (Nat.le_refl _)⟩ ⟨(Nat.le_refl _), (Nat.le_refl _)⟩ (fun r0 h1 hp => ?_)
    obtain ⟨e1, rfl⟩ := hp
    subst h1
    have hle := pdeg_le v 7
    refine gr_iflt 44 dX5_keepCommonDivisor_18 (by decide) (fun c_18 => ?_) (fun c_18 => ?_)
    · rw [dn_neg (by omega)] at c_18
      rw [← hr, show gcR (g + 1) u v = u from if_pos c_18]
      exact c_gc_end l E d h a b hab x y u v hu hv hxy _ _
    · rw [dn_neg (by omega)] at c_18
      refine gr_aload_n dX5_keepCommonDivisor_21 rfl ?_
      refine gr_callS dX5_keepCommonDivisor_22 (c_makeMonic l E d _ y 7 v ga_up_eq (by decide)) ysX4_makeMonic ⟨ml_X5_34, sm_X4_makeMonic⟩ rfl rfl (Nat.le_of_ble_eq_true rfl) ⟨(Nat.le_refl _), (Nat.le_refl _)⟩ ⟨(Nat.le_refl _), (Nat.le_refl _)⟩ (fun r0 h1 hp => ?_)
      obtain ⟨e1, rfl⟩ := hp
      subst h1
      rw [ga_up_up]
      refine gr_aload_n dX5_keepCommonDivisor_25 rfl ?_
      refine gr_aload_n dX5_keepCommonDivisor_26 rfl ?_
      refine gr_callS dX5_keepCommonDivisor_27 (c_reduceBy l E d _ x y 7 7 u _ hyx (by rw [ga_up_ne hne]; exact ga_up_eq) ga_up_eq (by decide) (by decide)) ysX4_reduceBy ⟨ml_X5_89, sm_X4_reduceBy⟩ rfl rfl (Nat.le_of_ble_eq_true rfl) ⟨(Nat.le_refl _), (Nat.le_refl _)⟩ ⟨(Nat.le_refl _), (Nat.le_refl _)⟩ (fun r0 h1 hp => ?_)
      obtain ⟨e1, rfl⟩ := hp
      subst h1
      rw [gc_swap hne]
      refine gr_aload_n dX5_keepCommonDivisor_30 rfl ?_
      refine gr_astore dX5_keepCommonDivisor_31 (by decide) rfl ?_
      refine gr_aload_n dX5_keepCommonDivisor_33 rfl ?_
      refine gr_astore_n dX5_keepCommonDivisor_34 (by decide) rfl ?_
      refine gr_aload dX5_keepCommonDivisor_35 rfl ?_
      refine gr_astore_n dX5_keepCommonDivisor_37 (by decide) rfl ?_
      refine gr_iinc (v := nI (_ + 1)) dX5_keepCommonDivisor_38 rfl (nI_1 _) (by decide) rfl ?_
      refine gr_goto 7 dX5_keepCommonDivisor_41 (by decide) ?_
      exact ih y x _ _ (b1 + 1) _ (by omega) (pz_mon hv) (pz_red hu) hyx (gc_or hxy.symm) (by rw [← hr]; show _ = if pdeg v 7 = 0 then _ else _; rw [if_neg (by omega)])

set_option maxHeartbeats 4000000 in
set_option maxRecDepth 100000 in
theorem c_keepCommonDivisor (l : Launch) (E : ga_E) (d : Nat) (h : ga_H) (a b : Nat) (hab : a ≠ b) (u v : Nat → zp) (hu : pz 7 u) (hv : pz 7 v) (ha : h a = some (ga_f E 7 u)) (hb : h b = some (ga_f E 7 v)) : ga_Ok l E (d + 2) mX5_keepCommonDivisor [.ref a, .ref b] h 0 0 (fun r0 h' => ∃ J, pz 7 J ∧ h' = ga_up (ga_up h b (ga_f E 7 J)) a (ga_f E 7 (gcR 8 u v)) ∧ r0 = none) := by
  refine ga_Ok.of 4 _ (by decide) rfl (Nat.le_of_ble_eq_true rfl) rfl ?_
  refine gr_aload_n dX5_keepCommonDivisor_0 rfl ?_
  refine gr_astore_n dX5_keepCommonDivisor_1 (by decide) rfl ?_
  refine gr_aload_n dX5_keepCommonDivisor_2 rfl ?_
  refine gr_astore_n dX5_keepCommonDivisor_3 (by decide) rfl ?_
  refine gr_iconst (v := nI 0) dX5_keepCommonDivisor_4 rfl ?_
  refine gr_istore dX5_keepCommonDivisor_5 (by decide) rfl ?_
  refine gr_h (show h = ga_up (ga_up h a (ga_f E 7 u)) b (ga_f E 7 v) by rw [ga_up_self ha, ga_up_self hb]) ?_
  exact c_gc_loop l E d h a b hab _ 8 a b u v 0 _ (by omega) hu hv hab (Or.inl ⟨rfl, rfl⟩) rfl
end
section
/-! Roots: simple roots, one root, a row in order, a quotient; find -/
def psub1 (w : Nat → zp) (k : Nat) : Nat → zp := va_up w k (w k - 1 * 1)
def ksR (r : Nat → zp) : Nat → zp := if pdeg r 7 ≤ 1 then r else gcR 8 r (psub1 (rlS 0 32003 r 15 rl1) 1)
theorem pz_rl1 : pz 7 rl1 := fun j hj => by unfold rl1; rw [if_neg (by omega)]
theorem pz_rlS {c : zp} {e : Nat} {m : Nat → zp} : ∀ {k : Nat} {w : Nat → zp}, pz 7 w → pz 7 (rlS c e m k w)
  | 0, _, h => h
  | k + 1, w, h => by
    unfold rlS
    refine pz_rlS ?_
    split
    · exact pz_red (pz_mul (pz_rqW w m))
    · exact pz_rqW w m
theorem pz_gcR : ∀ {k : Nat} {u v : Nat → zp}, pz 7 u → pz 7 v → pz 7 (gcR k u v)
  | 0, _, _, h, _ => h
  | k + 1, u, v, hu, hv => by
    unfold gcR
    split
    · exact hu
    · exact pz_gcR (pz_mon hv) (pz_red hu)
theorem pz_ksR {r : Nat → zp} (h : pz 7 r) : pz 7 (ksR r) := by
  unfold ksR
  split
  · exact h
  · exact pz_gcR h (pz_up (pz_rlS pz_rl1) (by decide))
theorem dn_gt0 : ∀ k, k < 8 → ((0 : Int32) < nI k - nI 1 ↔ 1 < k) := by decide
theorem dn_le0 : ∀ k, k < 8 → (nI k - nI 1 ≤ (0 : Int32) ↔ k ≤ 1) := by decide
theorem dn_le1 : ∀ k, k < 8 → (nI k - nI 1 ≤ nI 1 ↔ k ≤ 2) := by decide
theorem dn_ge : ∀ a, a < 8 → ∀ b, b < 8 → (nI a - nI 1 ≤ nI b - nI 1 ↔ a ≤ b) := by decide

set_option maxHeartbeats 4000000 in
set_option maxRecDepth 100000 in
theorem c_keepSimpleRoots (l : Launch) (E : ga_E) (d : Nat) (h : ga_H) (A : Nat → Nat) (n : Nat) (f r p i w s : Nat → zp) (hA : ga_inj A 7) (hr : pz 7 r) (hw : pz 7 w) (hs : pz 13 s) : ga_Ok l E (d + 4) mX5_keepSimpleRoots [.ref (A 0)] (roH E h A n f r p i w s) 0 0 (fun r0 h' => ∃ w' s', pz 7 w' ∧ pz 13 s' ∧ h' = roH E h A n f (ksR r) p i w' s' ∧ r0 = none) := by
  refine ga_Ok.of 0 _ (by decide) rfl (Nat.le_of_ble_eq_true rfl) rfl ?_
  refine gr_aload_n dX5_keepSimpleRoots_0 rfl ?_
  refine gr_getf dX5_keepSimpleRoots_1 cls_X5 1 (by decide) fl_X5_15 (ro_0 hA) rfl ?_
  refine gr_callS dX5_keepSimpleRoots_4 (c_degree l E (d + 3) _ (A 2) 7 r (ro_2 hA) (by decide)) ysX4_degree ⟨ml_X5_43, sm_X4_degree⟩ rfl rfl (Nat.le_of_ble_eq_true rfl) ⟨(Nat.le_refl _), (Nat.le_refl _)⟩ ⟨(Nat.le_refl _), (Nat.le_refl _)⟩ (fun r0 h1 hp => ?_)
  obtain ⟨e1, rfl⟩ := hp
  subst h1
  have hle := pdeg_le r 7
  refine gr_ifgt 11 dX5_keepSimpleRoots_7 (by decide) (fun c_7 => ?_) (fun c_7 => ?_)
  · refine gr_aload_n dX5_keepSimpleRoots_11 rfl ?_
    refine gr_iconst (v := nI (0 : zp).val) dX5_keepSimpleRoots_12 rfl ?_
    refine gr_sipush (v := nI 32003) dX5_keepSimpleRoots_13 (by decide) ?_
    refine gr_aload_n dX5_keepSimpleRoots_16 rfl ?_
    refine gr_getf dX5_keepSimpleRoots_17 cls_X5 1 (by decide) fl_X5_15 (ro_0 hA) rfl ?_
    refine gr_callV dX5_keepSimpleRoots_20 (c_raiseLinear l E d h A n f r p i r 2 hA (Or.inl ⟨rfl, rfl⟩) 0 32003 (by decide) w s hw hs) ysX5_raiseLinear ⟨ml_X5_58, im_X5_raiseLinear, sl_X5_raiseLinear⟩ (ro_0 hA) (show vwCl[5]? = some (RX5, TX5, _) from rfl) rfl rfl (Nat.le_of_ble_eq_true rfl) ⟨(Nat.le_refl _), (Nat.le_refl _)⟩ ⟨(Nat.le_refl _), (Nat.le_refl _)⟩ (fun r0 h1 hp => ?_)
    obtain ⟨s1, hs1, e1, rfl⟩ := hp
    subst h1
    refine gr_aload_n dX5_keepSimpleRoots_23 rfl ?_
    refine gr_getf dX5_keepSimpleRoots_24 cls_X5 4 (by decide) fl_X5_24 (ro_0 hA) rfl ?_
    refine gr_iconst (v := nI 1) dX5_keepSimpleRoots_27 rfl ?_
    refine gr_aload_n dX5_keepSimpleRoots_28 rfl ?_
    refine gr_getf dX5_keepSimpleRoots_29 cls_X5 4 (by decide) fl_X5_24 (ro_0 hA) rfl ?_
    refine gr_iconst (v := nI 1) dX5_keepSimpleRoots_32 rfl ?_
    refine gr_ialoadF dX5_keepSimpleRoots_33 (ro_5 hA) (by decide) (by decide) ?_
    refine gr_iconst (v := nI (1 : zp).val) dX5_keepSimpleRoots_34 rfl ?_
    refine gr_iconst (v := nI (1 : zp).val) dX5_keepSimpleRoots_35 rfl ?_
    refine gr_callS dX5_keepSimpleRoots_36 (c_less l E (d + 3) _ _ 1 1) ysX3_less ⟨ml_X5_62, sm_X3_less⟩ rfl rfl (Nat.le_of_ble_eq_true rfl) ⟨(Nat.le_refl _), (Nat.le_refl _)⟩ ⟨(Nat.le_refl _), (Nat.le_refl _)⟩ (fun r0 h1 hp => ?_)
    obtain ⟨e1, rfl⟩ := hp
    subst h1
    refine gr_iastoreF dX5_keepSimpleRoots_39 (ro_5 hA) (by decide) (by decide) ?_
    rw [ro_w5 hA]
    refine gr_aload_n dX5_keepSimpleRoots_40 rfl ?_
    refine gr_getf dX5_keepSimpleRoots_41 cls_X5 1 (by decide) fl_X5_15 (ro_0 hA) rfl ?_
    refine gr_aload_n dX5_keepSimpleRoots_44 rfl ?_
    refine gr_getf dX5_keepSimpleRoots_45 cls_X5 4 (by decide) fl_X5_24 (ro_0 hA) rfl ?_
    refine gr_callS dX5_keepSimpleRoots_48 (c_keepCommonDivisor l E (d + 1) _ (A 2) (A 5) (hA.ne (by decide) (by decide) (by decide)) r _ hr (pz_up (pz_rlS pz_rl1) (by decide)) (ro_2 hA) (ro_5 hA)) ysX5_keepCommonDivisor ⟨ml_X5_68, sm_X5_keepCommonDivisor⟩ rfl rfl (Nat.le_of_ble_eq_true rfl) ⟨(Nat.le_refl _), (Nat.le_refl _)⟩ ⟨(Nat.le_refl _), (Nat.le_refl _)⟩ (fun r0 h1 hp => ?_)
    obtain ⟨J, hJ, e1, rfl⟩ := hp
    subst h1
    rw [ro_w5 hA, ro_w2 hA]
    rw [dn_gt0 _ (by omega)] at c_7
    exact gr_return dX5_keepSimpleRoots_51 rfl (Nat.le_refl _) (Nat.le_refl _) ⟨J, s1, hJ, hs1, by unfold ksR; rw [if_neg (by omega)]; rfl, rfl⟩
  · rw [dn_gt0 _ (by omega)] at c_7
    exact gr_return dX5_keepSimpleRoots_10 rfl (Nat.le_refl _) (Nat.le_refl _) ⟨w, s, hw, hs, by unfold ksR; rw [if_pos (by omega)], rfl⟩

/-- one turn: the part of p whose roots, moved by sh, are squares, if it is a proper one -/
def spQ (p : Nat → zp) (sh : Nat) : Nat → zp := gcR 8 p (psub1 (rlS (zo sh) 16001 p 15 rl1) 0)
def spN (p : Nat → zp) (sh : Nat) : Nat → zp := if 1 < pdeg (spQ p sh) 7 ∧ pdeg (spQ p sh) 7 < pdeg p 7 then spQ p sh else p
def spR : Nat → Nat → (Nat → zp) → (Nat → zp)
  | 0, _, p => p
  | k + 1, sh, p => if pdeg p 7 ≤ 2 then p else spR k (sh + 1) (spN p sh)
theorem pz_spQ {p : Nat → zp} {sh : Nat} (h : pz 7 p) : pz 7 (spQ p sh) := pz_gcR h (pz_up (pz_rlS pz_rl1) (by decide))
theorem pz_spN {p : Nat → zp} {sh : Nat} (h : pz 7 p) : pz 7 (spN p sh) := by
  unfold spN
  split
  · exact pz_spQ h
  · exact h

set_option maxHeartbeats 4000000 in
set_option maxRecDepth 100000 in
theorem c_sp_end (l : Launch) (E : ga_E) (d : Nat) (h : ga_H) (A : Nat → Nat) (n : Nat) (f r p i w s : Nat → zp) (hA : ga_inj A 7) (hp : pz 7 p) (hi : pz 7 i) (hw : pz 7 w) (hs : pz 13 s) (x1 x2 : Option Value) : ga_G l E mX5_splitOffRoot (ga_Rm (d + 4) 0 0) (ga_Z E (fun r0 h' => ∃ p' i' w' s', pz 7 p' ∧ pz 7 i' ∧ pz 7 w' ∧ pz 13 s' ∧ h' = roH E h A n f r p' i' w' s' ∧ r0 = some (.int (nI (-(p 0)).val))) 0 0) 134 [some (.ref (A 0)), x1, x2] [] (roH E h A n f r p i w s) 0 0 := by
  refine gr_aload_n dX5_splitOffRoot_134 rfl ?_
  refine gr_getf dX5_splitOffRoot_135 cls_X5 2 (by decide) fl_X5_18 (ro_0 hA) rfl ?_
  refine gr_iconst (v := nI 0) dX5_splitOffRoot_138 rfl ?_
  refine gr_ialoadF dX5_splitOffRoot_139 (ro_3 hA) (by decide) (by decide) ?_
  refine gr_callS dX5_splitOffRoot_140 (c_negative l E (d + 3) _ (p 0)) ysX3_negative ⟨ml_X5_78, sm_X3_negative⟩ rfl rfl (Nat.le_of_ble_eq_true rfl) ⟨(Nat.le_refl _), (Nat.le_refl _)⟩ ⟨(Nat.le_refl _), (Nat.le_refl _)⟩ (fun r0 h1 hp9 => ?_)
  obtain ⟨e1, rfl⟩ := hp9
  subst h1
  exact gr_ireturn dX5_splitOffRoot_143 rfl (Nat.le_refl _) (Nat.le_refl _) ⟨p, i, w, s, hp, hi, hw, hs, rfl, rfl⟩

set_option maxHeartbeats 4000000 in
set_option maxRecDepth 100000 in
theorem c_sp_loop (l : Launch) (E : ga_E) (d : Nat) (h : ga_H) (A : Nat → Nat) (n : Nat) (f r : Nat → zp) (hA : ga_inj A 7) (res : Nat → zp) : ∀ (g sh : Nat) (p i w s : Nat → zp) (x2 : Option Value), sh + g = 32003 → pz 7 p → pz 7 i → pz 7 w → pz 13 s → spR g sh p = res → ga_G l E mX5_splitOffRoot (ga_Rm (d + 4) 0 0) (ga_Z E (fun r0 h' => ∃ p' i' w' s', pz 7 p' ∧ pz 7 i' ∧ pz 7 w' ∧ pz 13 s' ∧ h' = roH E h A n f r p' i' w' s' ∧ r0 = some (.int (nI (-(res 0)).val))) 0 0) 17 [some (.ref (A 0)), some (.int (nI sh)), x2] [] (roH E h A n f r p i w s) 0 0 := by
  intro g
  induction g with
  | zero =>
    intro sh p i w s x2 hg hp hi hw hs hres
    refine gr_iload_n dX5_splitOffRoot_17 rfl (gr_sipush (v := nI 32003) dX5_splitOffRoot_18 (by decide) ?_)
    refine gr_icmpgeN 134 dX5_splitOffRoot_21 (by decide) (by omega) (by decide) (fun _ => ?_) (fun z => absurd z (by omega))
    rw [← hres]
    exact c_sp_end l E d h A n f r p i w s hA hp hi hw hs _ _
  | succ g ih =>
    intro sh p i w s x2 hg hp hi hw hs hres
    refine gr_iload_n dX5_splitOffRoot_17 rfl (gr_sipush (v := nI 32003) dX5_splitOffRoot_18 (by decide) ?_)
    refine gr_icmpgeN 134 dX5_splitOffRoot_21 (by decide) (by omega) (by decide) (fun z => absurd z (by omega)) (fun _ => ?_)
    refine gr_aload_n dX5_splitOffRoot_24 rfl (gr_getf dX5_splitOffRoot_25 cls_X5 2 (by decide) fl_X5_18 (ro_0 hA) rfl ?_)
    refine gr_callS dX5_splitOffRoot_28 (c_degree l E (d + 3) _ (A 3) 7 p (ro_3 hA) (by decide)) ysX4_degree ⟨ml_X5_43, sm_X4_degree⟩ rfl rfl (Nat.le_of_ble_eq_true rfl) ⟨(Nat.le_refl _), (Nat.le_refl _)⟩ ⟨(Nat.le_refl _), (Nat.le_refl _)⟩ (fun r0 h1 hp9 => ?_)
    obtain ⟨e1, rfl⟩ := hp9
    subst h1
    have hp7 := pdeg_le p 7
    refine gr_iconst (v := nI 1) dX5_splitOffRoot_31 rfl ?_
    refine gr_icmple 134 dX5_splitOffRoot_32 (by decide) (fun c_32 => ?_) (fun c_32 => ?_)
    · rw [dn_le1 _ (by omega)] at c_32
      rw [← hres, show spR (g + 1) sh p = p from if_pos c_32]
      exact c_sp_end l E d h A n f r p i w s hA hp hi hw hs _ _
    · rw [dn_le1 _ (by omega)] at c_32
      rw [show spR (g + 1) sh p = spR g (sh + 1) (spN p sh) from if_neg c_32] at hres
      refine gr_aload_n dX5_splitOffRoot_35 rfl ?_
      refine gr_iload_n dX5_splitOffRoot_36 rfl (gr_top (show Value.int (nI sh) = .int (nI (zo sh).val) by rw [show (zo sh).val = sh from Nat.mod_eq_of_lt (by omega)]) ?_)
      refine gr_sipush (v := nI 16001) dX5_splitOffRoot_37 (by decide) ?_
      refine gr_aload_n dX5_splitOffRoot_40 rfl ?_
      refine gr_getf dX5_splitOffRoot_41 cls_X5 2 (by decide) fl_X5_18 (ro_0 hA) rfl ?_
      refine gr_callV dX5_splitOffRoot_44 (c_raiseLinear l E d h A n f r p i p 3 hA (Or.inr ⟨rfl, rfl⟩) (zo sh) 16001 (by decide) w s hw hs) ysX5_raiseLinear ⟨ml_X5_58, im_X5_raiseLinear, sl_X5_raiseLinear⟩ (ro_0 hA) (show vwCl[5]? = some (RX5, TX5, _) from rfl) rfl rfl (Nat.le_of_ble_eq_true rfl) ⟨(Nat.le_refl _), (Nat.le_refl _)⟩ ⟨(Nat.le_refl _), (Nat.le_refl _)⟩ (fun r0 h1 hp9 => ?_)
      obtain ⟨s1, hs1, e1, rfl⟩ := hp9
      subst h1
      refine gr_aload_n dX5_splitOffRoot_47 rfl ?_
      refine gr_getf dX5_splitOffRoot_48 cls_X5 4 (by decide) fl_X5_24 (ro_0 hA) rfl ?_
      refine gr_iconst (v := nI 0) dX5_splitOffRoot_51 rfl ?_
      refine gr_aload_n dX5_splitOffRoot_52 rfl ?_
      refine gr_getf dX5_splitOffRoot_53 cls_X5 4 (by decide) fl_X5_24 (ro_0 hA) rfl ?_
      refine gr_iconst (v := nI 0) dX5_splitOffRoot_56 rfl ?_
      refine gr_ialoadF dX5_splitOffRoot_57 (ro_5 hA) (by decide) (by decide) ?_
      refine gr_iconst (v := nI (1 : zp).val) dX5_splitOffRoot_58 rfl ?_
      refine gr_iconst (v := nI (1 : zp).val) dX5_splitOffRoot_59 rfl ?_
      refine gr_callS dX5_splitOffRoot_60 (c_less l E (d + 3) _ _ 1 1) ysX3_less ⟨ml_X5_62, sm_X3_less⟩ rfl rfl (Nat.le_of_ble_eq_true rfl) ⟨(Nat.le_refl _), (Nat.le_refl _)⟩ ⟨(Nat.le_refl _), (Nat.le_refl _)⟩ (fun r0 h1 hp9 => ?_)
      obtain ⟨e1, rfl⟩ := hp9
      subst h1
      refine gr_iastoreF dX5_splitOffRoot_63 (ro_5 hA) (by decide) (by decide) ?_
      rw [ro_w5 hA]
      refine gr_aload_n dX5_splitOffRoot_64 rfl ?_
      refine gr_getf dX5_splitOffRoot_65 cls_X5 2 (by decide) fl_X5_18 (ro_0 hA) rfl ?_
      refine gr_iconst (v := nI 0) dX5_splitOffRoot_68 rfl ?_
      refine gr_aload_n dX5_splitOffRoot_69 rfl ?_
      refine gr_getf dX5_splitOffRoot_70 cls_X5 3 (by decide) fl_X5_21 (ro_0 hA) rfl ?_
      refine gr_iconst (v := nI 0) dX5_splitOffRoot_73 rfl ?_
      refine gr_bipush (v := nI 7) dX5_splitOffRoot_74 (by decide) ?_
      refine gr_copyF dX5_splitOffRoot_76 ml_X5_72 (ro_3 hA) (ro_4 hA) (by decide) rfl (by decide) ⟨by show 1 ≤ d + 4; omega, by show 64 ≤ 64 * (d + 4); omega⟩ (Nat.le_of_ble_eq_true rfl) hi ?_
      rw [pcut_self hp, ro_w4 hA]
      refine gr_aload_n dX5_splitOffRoot_79 rfl ?_
      refine gr_getf dX5_splitOffRoot_80 cls_X5 3 (by decide) fl_X5_21 (ro_0 hA) rfl ?_
      refine gr_aload_n dX5_splitOffRoot_83 rfl ?_
      refine gr_getf dX5_splitOffRoot_84 cls_X5 4 (by decide) fl_X5_24 (ro_0 hA) rfl ?_
      refine gr_callS dX5_splitOffRoot_87 (c_keepCommonDivisor l E (d + 1) _ (A 4) (A 5) (hA.ne (by decide) (by decide) (by decide)) p _ hp (pz_up (pz_rlS pz_rl1) (by decide)) (ro_4 hA) (ro_5 hA)) ysX5_keepCommonDivisor ⟨ml_X5_68, sm_X5_keepCommonDivisor⟩ rfl rfl (Nat.le_of_ble_eq_true rfl) ⟨(Nat.le_refl _), (Nat.le_refl _)⟩ ⟨(Nat.le_refl _), (Nat.le_refl _)⟩ (fun r0 h1 hp9 => ?_)
      obtain ⟨J, hJ, e1, rfl⟩ := hp9
      subst h1
      rw [ro_w5 hA, ro_w4 hA]
      rw [show gcR 8 p (va_up (rlS (zo sh) 16001 p 15 rl1) 0 (rlS (zo sh) 16001 p 15 rl1 0 - 1 * 1)) = spQ p sh from rfl]
      have hq7 := pdeg_le (spQ p sh) 7
      refine gr_aload_n dX5_splitOffRoot_90 rfl ?_
      refine gr_getf dX5_splitOffRoot_91 cls_X5 3 (by decide) fl_X5_21 (ro_0 hA) rfl ?_
      refine gr_callS dX5_splitOffRoot_94 (c_degree l E (d + 3) _ (A 4) 7 (spQ p sh) (ro_4 hA) (by decide)) ysX4_degree ⟨ml_X5_43, sm_X4_degree⟩ rfl rfl (Nat.le_of_ble_eq_true rfl) ⟨(Nat.le_refl _), (Nat.le_refl _)⟩ ⟨(Nat.le_refl _), (Nat.le_refl _)⟩ (fun r0 h1 hp9 => ?_)
      obtain ⟨e1, rfl⟩ := hp9
      subst h1
      refine gr_istore_n dX5_splitOffRoot_97 (by decide) rfl ?_
      refine gr_iload_n dX5_splitOffRoot_98 rfl ?_
      refine gr_ifle 128 dX5_splitOffRoot_99 (by decide) (fun c_99 => ?_) (fun c_99 => ?_)
      · rw [dn_le0 _ (by omega)] at c_99
        refine gr_iinc (v := nI (_ + 1)) dX5_splitOffRoot_128 rfl (nI_1 _) (by decide) rfl ?_
        refine gr_goto 17 dX5_splitOffRoot_131 (by decide) ?_
        exact ih (sh + 1) p _ _ _ _ (by omega) hp (pz_spQ hp) hJ hs1 (by rw [← hres, show spN p sh = p from if_neg (by omega)])
      · refine gr_iload_n dX5_splitOffRoot_102 rfl ?_
        refine gr_aload_n dX5_splitOffRoot_103 rfl ?_
        refine gr_getf dX5_splitOffRoot_104 cls_X5 2 (by decide) fl_X5_18 (ro_0 hA) rfl ?_
        refine gr_callS dX5_splitOffRoot_107 (c_degree l E (d + 3) _ (A 3) 7 p (ro_3 hA) (by decide)) ysX4_degree ⟨ml_X5_43, sm_X4_degree⟩ rfl rfl (Nat.le_of_ble_eq_true rfl) ⟨(Nat.le_refl _), (Nat.le_refl _)⟩ ⟨(Nat.le_refl _), (Nat.le_refl _)⟩ (fun r0 h1 hp9 => ?_)
        obtain ⟨e1, rfl⟩ := hp9
        subst h1
        refine gr_icmpge 128 dX5_splitOffRoot_110 (by decide) (fun c_110 => ?_) (fun c_110 => ?_)
        · rw [dn_ge _ (by omega) _ (by omega)] at c_110
          refine gr_iinc (v := nI (_ + 1)) dX5_splitOffRoot_128 rfl (nI_1 _) (by decide) rfl ?_
          refine gr_goto 17 dX5_splitOffRoot_131 (by decide) ?_
          exact ih (sh + 1) p _ _ _ _ (by omega) hp (pz_spQ hp) hJ hs1 (by rw [← hres, show spN p sh = p from if_neg (by omega)])
        · rw [dn_ge _ (by omega) _ (by omega)] at c_110
          rw [dn_le0 _ (by omega)] at c_99
          refine gr_aload_n dX5_splitOffRoot_113 rfl ?_
          refine gr_getf dX5_splitOffRoot_114 cls_X5 3 (by decide) fl_X5_21 (ro_0 hA) rfl ?_
          refine gr_iconst (v := nI 0) dX5_splitOffRoot_117 rfl ?_
          refine gr_aload_n dX5_splitOffRoot_118 rfl ?_
          refine gr_getf dX5_splitOffRoot_119 cls_X5 2 (by decide) fl_X5_18 (ro_0 hA) rfl ?_
          refine gr_iconst (v := nI 0) dX5_splitOffRoot_122 rfl ?_
          refine gr_bipush (v := nI 7) dX5_splitOffRoot_123 (by decide) ?_
          refine gr_copyF dX5_splitOffRoot_125 ml_X5_72 (ro_4 hA) (ro_3 hA) (by decide) rfl (by decide) ⟨by show 1 ≤ d + 4; omega, by show 64 ≤ 64 * (d + 4); omega⟩ (Nat.le_of_ble_eq_true rfl) hp ?_
          rw [pcut_self (pz_spQ hp), ro_w3 hA]
          refine gr_iinc (v := nI (_ + 1)) dX5_splitOffRoot_128 rfl (nI_1 _) (by decide) rfl ?_
          refine gr_goto 17 dX5_splitOffRoot_131 (by decide) ?_
          exact ih (sh + 1) (spQ p sh) _ _ _ _ (by omega) (pz_spQ hp) (pz_spQ hp) hJ hs1 (by rw [← hres, show spN p sh = spQ p sh from if_pos (by omega)])

set_option maxHeartbeats 4000000 in
set_option maxRecDepth 100000 in
theorem c_splitOffRoot (l : Launch) (E : ga_E) (d : Nat) (h : ga_H) (A : Nat → Nat) (n : Nat) (f r p i w s : Nat → zp) (hA : ga_inj A 7) (hr : pz 7 r) (hp : pz 7 p) (hi : pz 7 i) (hw : pz 7 w) (hs : pz 13 s) : ga_Ok l E (d + 4) mX5_splitOffRoot [.ref (A 0)] (roH E h A n f r p i w s) 0 0 (fun r0 h' => ∃ p' i' w' s', pz 7 p' ∧ pz 7 i' ∧ pz 7 w' ∧ pz 13 s' ∧ h' = roH E h A n f r p' i' w' s' ∧ r0 = some (.int (nI (-(spR 32003 0 r 0)).val))) := by
  refine ga_Ok.of 2 _ (by decide) rfl (Nat.le_of_ble_eq_true rfl) rfl ?_
  refine gr_aload_n dX5_splitOffRoot_0 rfl ?_
  refine gr_getf dX5_splitOffRoot_1 cls_X5 1 (by decide) fl_X5_15 (ro_0 hA) rfl ?_
  refine gr_iconst (v := nI 0) dX5_splitOffRoot_4 rfl ?_
  refine gr_aload_n dX5_splitOffRoot_5 rfl ?_
  refine gr_getf dX5_splitOffRoot_6 cls_X5 2 (by decide) fl_X5_18 (ro_0 hA) rfl ?_
  refine gr_iconst (v := nI 0) dX5_splitOffRoot_9 rfl ?_
  refine gr_bipush (v := nI 7) dX5_splitOffRoot_10 (by decide) ?_
  refine gr_copyF dX5_splitOffRoot_12 ml_X5_72 (ro_2 hA) (ro_3 hA) (by decide) rfl (by decide) ⟨by show 1 ≤ d + 4; omega, by show 64 ≤ 64 * (d + 4); omega⟩ (Nat.le_of_ble_eq_true rfl) hp ?_
  rw [pcut_self hr, ro_w3 hA]
  refine gr_iconst (v := nI 0) dX5_splitOffRoot_15 rfl ?_
  refine gr_istore_n dX5_splitOffRoot_16 (by decide) rfl ?_
  exact c_sp_loop l E d h A n f r hA _ 32003 0 r _ _ _ _ (by omega) hr hi hw hs rfl
end
section
/-! Roots: insert, divideOut, at, find -/
/-- x put into the first k numbers, in order -/
def insR (x : zp) : Nat → (Nat → zp) → (Nat → zp)
  | 0, f => va_up f 0 x
  | k + 1, f => if (f k).val ≤ x.val then va_up f (k + 1) x else insR x k (va_up f (k + 1) (f k))
def dvR (x : zp) : Nat → zp → (Nat → zp) → (Nat → zp)
  | 0, _, r => r
  | k + 1, c, r => dvR x k (r k + c * x) (va_up r k c)
theorem pz_dvR {x : zp} : ∀ {k : Nat} {c : zp} {r : Nat → zp}, k ≤ 7 → pz 7 r → pz 7 (dvR x k c r)
  | 0, _, _, _, h => h
  | k + 1, c, r, hk, h => by unfold dvR; exact pz_dvR (by omega) (pz_up h (by omega))

set_option maxHeartbeats 4000000 in
set_option maxRecDepth 100000 in
theorem c_ins_end (l : Launch) (E : ga_E) (d : Nat) (h : ga_H) (A : Nat → Nat) (n : Nat) (r p i w s : Nat → zp) (hA : ga_inj A 7) (x : zp) (hn : n < 6) (res : Nat → zp) (f : Nat → zp) (k : Nat) (hk : k < 6) (hres : va_up f k x = res) : ga_G l E mX5_insert (ga_Rm d 0 0) (ga_Z E (fun r0 h' => h' = roH E h A (n + 1) res r p i w s ∧ r0 = none) 0 0) 54 [some (.ref (A 0)), some (.int (nI x.val)), some (.int (nI k))] [] (roH E h A n f r p i w s) 0 0 := by
  refine gr_aload_n dX5_insert_54 rfl ?_
  refine gr_getf dX5_insert_55 cls_X5 0 (by decide) fl_X5_9 (ro_0 hA) rfl ?_
  refine gr_iload_n dX5_insert_58 rfl ?_
  refine gr_iload_n dX5_insert_59 rfl ?_
  refine gr_iastoreF dX5_insert_60 (ro_1 hA) (by omega) (by decide) ?_
  rw [ro_w1 hA]
  refine gr_aload_n dX5_insert_61 rfl ?_
  refine gr_dup dX5_insert_62 rfl ?_
  refine gr_getf dX5_insert_63 cls_X5 6 (by decide) fl_X5_30 (ro_0 hA) rfl ?_
  refine gr_iconst (v := nI 1) dX5_insert_66 rfl ?_
  refine gr_iaddN dX5_insert_67 ?_
  refine gr_putf dX5_insert_68 cls_X5 6 (by decide) fl_X5_30 rfl rfl rfl (by show 6 < 7; decide) (ro_0 hA) ?_
  refine gr_h (ro_w0 hA (n + 1)) ?_
  rw [hres]
  exact gr_return dX5_insert_71 rfl (Nat.le_refl _) (Nat.le_refl _) ⟨rfl, rfl⟩

set_option maxHeartbeats 4000000 in
set_option maxRecDepth 100000 in
theorem c_ins_loop (l : Launch) (E : ga_E) (d : Nat) (h : ga_H) (A : Nat → Nat) (n : Nat) (r p i w s : Nat → zp) (hA : ga_inj A 7) (x : zp) (hn : n < 6) (res : Nat → zp) : ∀ (k : Nat) (f : Nat → zp), k < 6 → insR x k f = res → ga_G l E mX5_insert (ga_Rm d 0 0) (ga_Z E (fun r0 h' => h' = roH E h A (n + 1) res r p i w s ∧ r0 = none) 0 0) 18 [some (.ref (A 0)), some (.int (nI x.val)), some (.int (nI k))] [] (roH E h A n f r p i w s) 0 0 := by
  intro k
  induction k with
  | zero =>
    intro f hk hres
    refine gr_iload_n dX5_insert_18 rfl ?_
    refine gr_ifleN 54 dX5_insert_19 (by decide) (by decide) (fun _ => ?_) (fun z => absurd rfl z)
    exact c_ins_end l E d h A n r p i w s hA x hn res f 0 hk hres
  | succ k ih =>
    intro f hk hres
    refine gr_iload_n dX5_insert_18 rfl ?_
    refine gr_ifleN 54 dX5_insert_19 (by decide) (by omega) (fun z => absurd z (by omega)) (fun _ => ?_)
    refine gr_aload_n dX5_insert_22 rfl ?_
    refine gr_getf dX5_insert_23 cls_X5 0 (by decide) fl_X5_9 (ro_0 hA) rfl ?_
    refine gr_iload_n dX5_insert_26 rfl ?_
    refine gr_iconst (v := nI 1) dX5_insert_27 rfl ?_
    refine gr_isubN dX5_insert_28 (by omega) ?_
    rw [Nat.add_sub_cancel]
    refine gr_ialoadF dX5_insert_29 (ro_1 hA) (by omega) (by decide) ?_
    refine gr_iload_n dX5_insert_30 rfl ?_
    refine gr_icmpleN 54 dX5_insert_31 (by decide) (by have := zl (f k); omega) (by have := zl x; omega) (fun c_31 => ?_) (fun c_31 => ?_)
    · exact c_ins_end l E d h A n r p i w s hA x hn res f (k + 1) (by omega) (by rw [← hres]; exact (if_pos c_31).symm)
    · refine gr_aload_n dX5_insert_34 rfl ?_
      refine gr_getf dX5_insert_35 cls_X5 0 (by decide) fl_X5_9 (ro_0 hA) rfl ?_
      refine gr_iload_n dX5_insert_38 rfl ?_
      refine gr_aload_n dX5_insert_39 rfl ?_
      refine gr_getf dX5_insert_40 cls_X5 0 (by decide) fl_X5_9 (ro_0 hA) rfl ?_
      refine gr_iload_n dX5_insert_43 rfl ?_
      refine gr_iconst (v := nI 1) dX5_insert_44 rfl ?_
      refine gr_isubN dX5_insert_45 (by omega) ?_
      rw [Nat.add_sub_cancel]
      refine gr_ialoadF dX5_insert_46 (ro_1 hA) (by omega) (by decide) ?_
      refine gr_iastoreF dX5_insert_47 (ro_1 hA) (by omega) (by decide) ?_
      rw [ro_w1 hA]
      refine gr_iinc (v := nI k) dX5_insert_48 rfl (dn_stepS k) (by decide) rfl ?_
      refine gr_goto 18 dX5_insert_51 (by decide) ?_
      exact ih _ (by omega) (by rw [← hres]; exact (if_neg (by omega)).symm)

set_option maxHeartbeats 4000000 in
set_option maxRecDepth 100000 in
theorem c_insert (l : Launch) (E : ga_E) (d : Nat) (h : ga_H) (A : Nat → Nat) (n : Nat) (f r p i w s : Nat → zp) (hA : ga_inj A 7) (x : zp) (hn : n < 6) : ga_Ok l E d mX5_insert [.ref (A 0), .int (nI x.val)] (roH E h A n f r p i w s) 0 0 (fun r0 h' => h' = roH E h A (n + 1) (insR x n f) r p i w s ∧ r0 = none) := by
  refine ga_Ok.of 1 _ (by decide) rfl (Nat.le_of_ble_eq_true rfl) rfl ?_
  refine gr_aload_n dX5_insert_0 rfl ?_
  refine gr_getf dX5_insert_1 cls_X5 6 (by decide) fl_X5_30 (ro_0 hA) rfl ?_
  refine gr_aload_n dX5_insert_4 rfl ?_
  refine gr_getf dX5_insert_5 cls_X5 0 (by decide) fl_X5_9 (ro_0 hA) rfl ?_
  refine gr_alen_i dX5_insert_8 (ro_1 hA) ?_
  refine gr_icmpltN 13 dX5_insert_9 (by decide) (by omega) (by decide) (fun _ => ?_) (fun z => absurd z (by omega))
  refine gr_aload_n dX5_insert_13 rfl ?_
  refine gr_getf dX5_insert_14 cls_X5 6 (by decide) fl_X5_30 (ro_0 hA) rfl ?_
  refine gr_istore_n dX5_insert_17 (by decide) rfl ?_
  exact c_ins_loop l E d h A n r p i w s hA x hn _ n f hn rfl

set_option maxHeartbeats 4000000 in
set_option maxRecDepth 100000 in
theorem c_dv_loop (l : Launch) (E : ga_E) (d : Nat) (h : ga_H) (A : Nat → Nat) (n : Nat) (f p i w s : Nat → zp) (hA : ga_inj A 7) (x : zp) (res : Nat → zp) : ∀ (k : Nat) (c : zp) (r : Nat → zp) (x4 : Option Value), k ≤ 7 → dvR x k c r = res → ga_G l E mX5_divideOut (ga_Rm d 0 0) (ga_Z E (fun r0 h' => h' = roH E h A n f res p i w s ∧ r0 = none) 0 0) 5 [some (.ref (A 0)), some (.int (nI x.val)), some (.int (nI c.val)), some (.int (nI k - nI 1)), x4] [] (roH E h A n f r p i w s) 0 0 := by
  intro k
  induction k with
  | zero =>
    intro c r x4 _ hres
    refine gr_iload_n dX5_divideOut_5 rfl ?_
    refine gr_iflt 41 dX5_divideOut_6 (by decide) (fun _ => ?_) (fun z => absurd ((dn_neg (by decide)).mpr rfl) z)
    exact gr_return dX5_divideOut_41 rfl (Nat.le_refl _) (Nat.le_refl _) ⟨by rw [← hres]; rfl, rfl⟩
  | succ k ih =>
    intro c r x4 hk hres
    rw [dn_top]
    refine gr_iload_n dX5_divideOut_5 rfl ?_
    refine gr_ifltN dX5_divideOut_6 41 (by decide) (by omega) ?_
    refine gr_aload_n dX5_divideOut_9 rfl ?_
    refine gr_getf dX5_divideOut_10 cls_X5 1 (by decide) fl_X5_15 (ro_0 hA) rfl ?_
    refine gr_iload_n dX5_divideOut_13 rfl ?_
    refine gr_ialoadF dX5_divideOut_14 (ro_2 hA) (by omega) (by decide) ?_
    refine gr_iload_n dX5_divideOut_15 rfl ?_
    refine gr_iload_n dX5_divideOut_16 rfl ?_
    refine gr_imulN dX5_divideOut_17 ?_
    refine gr_iaddN dX5_divideOut_18 ?_
    refine gr_remP dX5_divideOut_19 dX5_divideOut_22 (by have := zmul_lt c x; have := zl (r k); omega) (zmad2 _ _ _) ?_
    refine gr_istore dX5_divideOut_23 (by decide) rfl ?_
    refine gr_aload_n dX5_divideOut_25 rfl ?_
    refine gr_getf dX5_divideOut_26 cls_X5 1 (by decide) fl_X5_15 (ro_0 hA) rfl ?_
    refine gr_iload_n dX5_divideOut_29 rfl ?_
    refine gr_iload_n dX5_divideOut_30 rfl ?_
    refine gr_iastoreF dX5_divideOut_31 (ro_2 hA) (by omega) (by decide) ?_
    rw [ro_w2 hA]
    refine gr_iload dX5_divideOut_32 rfl ?_
    refine gr_istore_n dX5_divideOut_34 (by decide) rfl ?_
    refine gr_iinc (v := nI k - nI 1) dX5_divideOut_35 rfl (dn_step k) (by decide) rfl ?_
    refine gr_goto 5 dX5_divideOut_38 (by decide) ?_
    exact ih _ _ _ (by omega) hres

set_option maxHeartbeats 4000000 in
set_option maxRecDepth 100000 in
theorem c_divideOut (l : Launch) (E : ga_E) (d : Nat) (h : ga_H) (A : Nat → Nat) (n : Nat) (f r p i w s : Nat → zp) (hA : ga_inj A 7) (x : zp) : ga_Ok l E d mX5_divideOut [.ref (A 0), .int (nI x.val)] (roH E h A n f r p i w s) 0 0 (fun r0 h' => h' = roH E h A n f (dvR x 7 0 r) p i w s ∧ r0 = none) := by
  refine ga_Ok.of 3 _ (by decide) rfl (Nat.le_of_ble_eq_true rfl) rfl ?_
  refine gr_iconst (v := nI (0 : zp).val) dX5_divideOut_0 rfl ?_
  refine gr_istore_n dX5_divideOut_1 (by decide) rfl ?_
  refine gr_bipush (v := nI 7 - nI 1) dX5_divideOut_2 (by decide) ?_
  refine gr_istore_n dX5_divideOut_4 (by decide) rfl ?_
  exact c_dv_loop l E d h A n f p i w s hA x _ 7 0 r _ (by omega) rfl

/-- the k-th one, -1 if there is none such *)-/
def roAt (n : Nat) (f : Nat → zp) (k : Int32) : Int32 := if k < 0 then -1 else if nI n ≤ k then -1 else nI (f k.toNatClampNeg).val

set_option maxHeartbeats 4000000 in
set_option maxRecDepth 100000 in
theorem c_roAt (l : Launch) (E : ga_E) (d : Nat) (h : ga_H) (A : Nat → Nat) (n : Nat) (f r p i w s : Nat → zp) (hA : ga_inj A 7) (hn : n ≤ 6) (k : Int32) : ga_Ok l E d mX5_at [.ref (A 0), .int k] (roH E h A n f r p i w s) 0 0 (fun r0 h' => h' = roH E h A n f r p i w s ∧ r0 = some (.int (roAt n f k))) := by
  refine ga_Ok.of 0 _ (by decide) rfl (Nat.le_of_ble_eq_true rfl) rfl ?_
  refine gr_iload_n dX5_at_0 rfl ?_
  refine gr_iflt 30 dX5_at_1 (by decide) (fun c_1 => ?_) (fun c_1 => ?_)
  · refine gr_iconst (v := -1) dX5_at_30 (by decide) ?_
    exact gr_ireturn dX5_at_31 rfl (Nat.le_refl _) (Nat.le_refl _) ⟨rfl, by unfold roAt; rw [if_pos c_1]⟩
  · obtain ⟨j, hj, rfl⟩ := nI_of c_1
    refine gr_iload_n dX5_at_4 rfl (gr_aload_n dX5_at_5 rfl (gr_getf dX5_at_6 cls_X5 6 (by decide) fl_X5_30 (ro_0 hA) rfl ?_))
    refine gr_icmpgeN 30 dX5_at_9 (by decide) hj (by omega) (fun c_9 => ?_) (fun c_9 => ?_)
    · refine gr_iconst (v := -1) dX5_at_30 (by decide) ?_
      exact gr_ireturn dX5_at_31 rfl (Nat.le_refl _) (Nat.le_refl _) ⟨rfl, by unfold roAt; rw [if_neg c_1, if_pos (nI_le c_9 hj)]⟩
    · refine gr_iload_n dX5_at_12 rfl (gr_aload_n dX5_at_13 rfl (gr_getf dX5_at_14 cls_X5 0 (by decide) fl_X5_9 (ro_0 hA) rfl (gr_alen_i dX5_at_17 (ro_1 hA) ?_)))
      refine gr_icmpgeN 30 dX5_at_18 (by decide) hj (by decide) (fun z => absurd z (by omega)) (fun _ => ?_)
      refine gr_aload_n dX5_at_21 rfl (gr_getf dX5_at_22 cls_X5 0 (by decide) fl_X5_9 (ro_0 hA) rfl (gr_iload_n dX5_at_25 rfl (gr_ialoadF dX5_at_26 (ro_1 hA) (by omega) (by decide) (gr_goto 31 dX5_at_27 (by decide) ?_))))
      exact gr_ireturn dX5_at_31 rfl (Nat.le_refl _) (Nat.le_refl _) ⟨rfl, by unfold roAt; rw [if_neg c_1, if_neg (nI_ge c_9 (by omega)), nI_clamp hj]⟩

/-- k roots split off, put in order, divided out *)-/
def fdR : Nat → Nat → (Nat → zp) → (Nat → zp) → Nat × (Nat → zp) × (Nat → zp)
  | 0, n, f, r => (n, f, r)
  | k + 1, n, f, r => fdR k (n + 1) (insR (-(spR 32003 0 r 0)) n f) (dvR (-(spR 32003 0 r 0)) 7 0 r)
def rtR (q : Nat → zp) : Nat → zp := ksR (pmon (pcut 7 q) 7)
def rtN (q f : Nat → zp) : Nat × (Nat → zp) × (Nat → zp) := fdR (pdeg (rtR q) 7 - 1) 0 f (rtR q)

set_option maxHeartbeats 4000000 in
set_option maxRecDepth 100000 in
theorem c_fd_loop (l : Launch) (E : ga_E) (d : Nat) (h : ga_H) (A : Nat → Nat) (hA : ga_inj A 7) (b : Nat) (N : Nat × (Nat → zp) × (Nat → zp)) : ∀ (k n : Nat) (f r p i w s : Nat → zp) (x3 : Option Value), n + k ≤ 6 → pz 7 r → pz 7 p → pz 7 i → pz 7 w → pz 13 s → fdR k n f r = N → ga_G l E mX5_find (ga_Rm (d + 5) 0 0) (ga_Z E (fun r0 h' => ∃ r' p' i' w' s', pz 7 r' ∧ pz 7 p' ∧ pz 7 i' ∧ pz 7 w' ∧ pz 13 s' ∧ h' = roH E h A N.1 N.2.1 r' p' i' w' s' ∧ r0 = none) 0 0) 57 [some (.ref (A 0)), some (.ref b), some (.int (nI k)), x3] [] (roH E h A n f r p i w s) 0 0 := by
  intro k
  induction k with
  | zero =>
    intro n f r p i w s x3 hk hr hp hi hw hs hN
    refine gr_iload_n dX5_find_57 rfl ?_
    refine gr_ifleN 82 dX5_find_58 (by decide) (by decide) (fun _ => ?_) (fun z => absurd rfl z)
    exact gr_return dX5_find_82 rfl (Nat.le_refl _) (Nat.le_refl _) ⟨r, p, i, w, s, hr, hp, hi, hw, hs, by rw [← hN]; rfl, rfl⟩
  | succ k ih =>
    intro n f r p i w s x3 hk hr hp hi hw hs hN
    refine gr_iload_n dX5_find_57 rfl ?_
    refine gr_ifleN 82 dX5_find_58 (by decide) (by omega) (fun z => absurd z (by omega)) (fun _ => ?_)
    refine gr_aload_n dX5_find_61 rfl ?_
    refine gr_callV dX5_find_62 (c_splitOffRoot l E d h A n f r p i w s hA hr hp hi hw hs) ysX5_splitOffRoot ⟨ml_X5_47, im_X5_splitOffRoot, sl_X5_splitOffRoot⟩ (ro_0 hA) (show vwCl[5]? = some (RX5, TX5, _) from rfl) rfl rfl (Nat.le_of_ble_eq_true rfl) ⟨(Nat.le_refl _), (Nat.le_refl _)⟩ ⟨(Nat.le_refl _), (Nat.le_refl _)⟩ (fun r0 h1 hp9 => ?_)
    obtain ⟨p1, i1, w1, s1, hp1, hi1, hw1, hs1, e1, rfl⟩ := hp9
    subst h1
    refine gr_istore_n dX5_find_65 (by decide) rfl ?_
    refine gr_aload_n dX5_find_66 rfl ?_
    refine gr_iload_n dX5_find_67 rfl ?_
    refine gr_callV dX5_find_68 (c_insert l E (d + 4) h A n f r p1 i1 w1 s1 hA _ (by omega)) ysX5_insert ⟨ml_X5_51, im_X5_insert, sl_X5_insert⟩ (ro_0 hA) (show vwCl[5]? = some (RX5, TX5, _) from rfl) rfl rfl (Nat.le_of_ble_eq_true rfl) ⟨(Nat.le_refl _), (Nat.le_refl _)⟩ ⟨(Nat.le_refl _), (Nat.le_refl _)⟩ (fun r0 h1 hp9 => ?_)
    obtain ⟨e1, rfl⟩ := hp9
    subst h1
    refine gr_aload_n dX5_find_71 rfl ?_
    refine gr_iload_n dX5_find_72 rfl ?_
    refine gr_callV dX5_find_73 (c_divideOut l E (d + 4) h A _ _ r p1 i1 w1 s1 hA _) ysX5_divideOut ⟨ml_X5_55, im_X5_divideOut, sl_X5_divideOut⟩ (ro_0 hA) (show vwCl[5]? = some (RX5, TX5, _) from rfl) rfl rfl (Nat.le_of_ble_eq_true rfl) ⟨(Nat.le_refl _), (Nat.le_refl _)⟩ ⟨(Nat.le_refl _), (Nat.le_refl _)⟩ (fun r0 h1 hp9 => ?_)
    obtain ⟨e1, rfl⟩ := hp9
    subst h1
    refine gr_iinc (v := nI k) dX5_find_76 rfl (dn_stepS k) (by decide) rfl ?_
    refine gr_goto 57 dX5_find_79 (by decide) ?_
    exact ih (n + 1) _ _ _ _ _ _ _ (by omega) (pz_dvR (by decide) hr) hp1 hi1 hw1 hs1 hN

set_option maxHeartbeats 4000000 in
set_option maxRecDepth 100000 in
theorem c_fd_mid (l : Launch) (E : ga_E) (d : Nat) (h : ga_H) (A : Nat → Nat) (hA : ga_inj A 7) (b : Nat) (N : Nat × (Nat → zp) × (Nat → zp)) (n : Nat) (f r p i w s : Nat → zp) (x2 x3 : Option Value) (hr : pz 7 r) (hp : pz 7 p) (hi : pz 7 i) (hw : pz 7 w) (hs : pz 13 s) (hn : n = 0) (hN : fdR (pdeg (ksR (pmon r 7)) 7 - 1) 0 f (ksR (pmon r 7)) = N) : ga_G l E mX5_find (ga_Rm (d + 5) 0 0) (ga_Z E (fun r0 h' => ∃ r' p' i' w' s', pz 7 r' ∧ pz 7 p' ∧ pz 7 i' ∧ pz 7 w' ∧ pz 13 s' ∧ h' = roH E h A N.1 N.2.1 r' p' i' w' s' ∧ r0 = none) 0 0) 38 [some (.ref (A 0)), some (.ref b), x2, x3] [] (roH E h A n f r p i w s) 0 0 := by
  refine gr_aload_n dX5_find_38 rfl ?_
  refine gr_getf dX5_find_39 cls_X5 1 (by decide) fl_X5_15 (ro_0 hA) rfl ?_
  refine gr_callS dX5_find_42 (c_makeMonic l E (d + 3) _ (A 2) 7 r (ro_2 hA) (by decide)) ysX4_makeMonic ⟨ml_X5_34, sm_X4_makeMonic⟩ rfl rfl (Nat.le_of_ble_eq_true rfl) ⟨(Nat.le_refl _), (Nat.le_refl _)⟩ ⟨(Nat.le_refl _), (Nat.le_refl _)⟩ (fun r0 h1 hp9 => ?_)
  obtain ⟨e1, rfl⟩ := hp9
  subst h1
  rw [ro_w2 hA]
  refine gr_aload_n dX5_find_45 rfl ?_
  refine gr_callV dX5_find_46 (c_keepSimpleRoots l E d h A n f _ p i w s hA (pz_mon hr) hw hs) ysX5_keepSimpleRoots ⟨ml_X5_40, im_X5_keepSimpleRoots, sl_X5_keepSimpleRoots⟩ (ro_0 hA) (show vwCl[5]? = some (RX5, TX5, _) from rfl) rfl rfl (Nat.le_of_ble_eq_true rfl) ⟨(Nat.le_refl _), (Nat.le_refl _)⟩ ⟨(Nat.le_refl _), (Nat.le_refl _)⟩ (fun r0 h1 hp9 => ?_)
  obtain ⟨w1, s1, hw1, hs1, e1, rfl⟩ := hp9
  subst h1
  refine gr_aload_n dX5_find_49 rfl ?_
  refine gr_getf dX5_find_50 cls_X5 1 (by decide) fl_X5_15 (ro_0 hA) rfl ?_
  refine gr_callS dX5_find_53 (c_degree l E (d + 4) _ (A 2) 7 _ (ro_2 hA) (by decide)) ysX4_degree ⟨ml_X5_43, sm_X4_degree⟩ rfl rfl (Nat.le_of_ble_eq_true rfl) ⟨(Nat.le_refl _), (Nat.le_refl _)⟩ ⟨(Nat.le_refl _), (Nat.le_refl _)⟩ (fun r0 h1 hp9 => ?_)
  obtain ⟨e1, rfl⟩ := hp9
  subst h1
  have hle := pdeg_le (ksR (pmon r 7)) 7
  subst hn
  rcases hk : pdeg (ksR (pmon r 7)) 7 with _ | t
  · rw [hk] at hN
    refine gr_istore_n dX5_find_56 (by decide) rfl (gr_iload_n dX5_find_57 rfl ?_)
    refine gr_ifle 82 dX5_find_58 (by decide) (fun _ => ?_) (fun z => absurd (by decide) z)
    exact gr_return dX5_find_82 rfl (Nat.le_refl _) (Nat.le_refl _) ⟨_, p, i, w1, s1, pz_ksR (pz_mon hr), hp, hi, hw1, hs1, by rw [← hN]; rfl, rfl⟩
  · rw [hk] at hle hN
    refine gr_top (congrArg Value.int (dn_top t)) (gr_istore_n dX5_find_56 (by decide) rfl ?_)
    exact c_fd_loop l E d h A hA b N t 0 f _ p i w1 s1 _ (by omega) (pz_ksR (pz_mon hr)) hp hi hw1 hs1 hN

set_option maxHeartbeats 4000000 in
set_option maxRecDepth 100000 in
theorem c_fd_copy (l : Launch) (E : ga_E) (d : Nat) (h : ga_H) (A : Nat → Nat) (hA : ga_inj A 7) (b : Nat) (N : Nat × (Nat → zp) × (Nat → zp)) (q : Nat → zp) (hb : h b = some (ga_f E 7 q)) (hbA : ∀ k, k < 7 → b ≠ A k) (f p i w s : Nat → zp) (hp : pz 7 p) (hi : pz 7 i) (hw : pz 7 w) (hs : pz 13 s) (hN : rtN q f = N) (n : Nat) (hn : n = 0) : ∀ (g : Nat) (r : Nat → zp) (a : Nat), a + g = 7 → (∀ j, j < a → r j = q j) → pz 7 r → ga_G l E mX5_find (ga_Rm (d + 5) 0 0) (ga_Z E (fun r0 h' => ∃ r' p' i' w' s', pz 7 r' ∧ pz 7 p' ∧ pz 7 i' ∧ pz 7 w' ∧ pz 13 s' ∧ h' = roH E h A N.1 N.2.1 r' p' i' w' s' ∧ r0 = none) 0 0) 7 [some (.ref (A 0)), some (.ref b), some (.int (nI a)), none] [] (roH E h A n f r p i w s) 0 0 := by
  intro g
  induction g with
  | zero =>
    intro r a ha hlt hr
    refine gr_iload_n dX5_find_7 rfl (gr_bipush (v := nI 7) dX5_find_8 (by decide) ?_)
    refine gr_icmpgeN 38 dX5_find_10 (by decide) (by omega) (by decide) (fun _ => ?_) (fun z => absurd z (by omega))
    have e0 : r = pcut 7 q := by
      funext j; unfold pcut
      by_cases c : j < 7
      · rw [if_pos c]; exact hlt j (by omega)
      · rw [if_neg c]; exact hr j (by omega)
    exact c_fd_mid l E d h A hA b N n f r p i w s _ _ hr hp hi hw hs hn (by rw [← hN, e0]; rfl)
  | succ g ih =>
    intro r a ha hlt hr
    have hbb : roH E h A n f r p i w s b = some (ga_f E 7 q) := (ga_ov_out hbA).trans hb
    refine gr_iload_n dX5_find_7 rfl (gr_bipush (v := nI 7) dX5_find_8 (by decide) ?_)
    refine gr_icmpgeN 38 dX5_find_10 (by decide) (by omega) (by decide) (fun z => absurd z (by omega)) (fun _ => ?_)
    refine gr_aload_n dX5_find_13 rfl ?_
    refine gr_getf dX5_find_14 cls_X5 1 (by decide) fl_X5_15 (ro_0 hA) rfl ?_
    refine gr_iload_n dX5_find_17 rfl ?_
    refine gr_iload_n dX5_find_18 rfl ?_
    refine gr_aload_n dX5_find_19 rfl ?_
    refine gr_alen_i dX5_find_20 hbb ?_
    refine gr_icmpgeN 30 dX5_find_21 (by decide) (by omega) (by decide) (fun z => absurd z (by omega)) (fun _ => ?_)
    refine gr_aload_n dX5_find_24 rfl ?_
    refine gr_iload_n dX5_find_25 rfl ?_
    refine gr_ialoadF dX5_find_26 hbb (by omega) (by decide) ?_
    refine gr_goto 31 dX5_find_27 (by decide) ?_
    refine gr_iastoreF dX5_find_31 (ro_2 hA) (by omega) (by decide) ?_
    rw [ro_w2 hA]
    refine gr_iinc (v := nI (_ + 1)) dX5_find_32 rfl (nI_1 _) (by decide) rfl ?_
    refine gr_goto 7 dX5_find_35 (by decide) ?_
    refine ih _ (a + 1) (by omega) (fun j hj => ?_) (pz_up hr (by omega))
    by_cases e : j = a
    · rw [show va_up r a (q a) j = q a from if_pos e, e]
    · exact (if_neg e : va_up r a (q a) j = r j).trans (hlt j (by omega))

set_option maxHeartbeats 4000000 in
set_option maxRecDepth 100000 in
theorem c_find (l : Launch) (E : ga_E) (d : Nat) (h : ga_H) (A : Nat → Nat) (hA : ga_inj A 7) (b : Nat) (n : Nat) (q f r p i w s : Nat → zp) (hb : h b = some (ga_f E 7 q)) (hbA : ∀ k, k < 7 → b ≠ A k) (hr : pz 7 r) (hp : pz 7 p) (hi : pz 7 i) (hw : pz 7 w) (hs : pz 13 s) : ga_Ok l E (d + 5) mX5_find [.ref (A 0), .ref b] (roH E h A n f r p i w s) 0 0 (fun r0 h' => ∃ r' p' i' w' s', pz 7 r' ∧ pz 7 p' ∧ pz 7 i' ∧ pz 7 w' ∧ pz 13 s' ∧ h' = roH E h A (rtN q f).1 (rtN q f).2.1 r' p' i' w' s' ∧ r0 = none) := by
  refine ga_Ok.of 2 _ (by decide) rfl (Nat.le_of_ble_eq_true rfl) rfl ?_
  refine gr_aload_n dX5_find_0 rfl ?_
  refine gr_iconst (v := nI 0) dX5_find_1 rfl ?_
  refine gr_putf dX5_find_2 cls_X5 6 (by decide) fl_X5_30 rfl rfl rfl (by show 6 < 7; decide) (ro_0 hA) ?_
  refine gr_h (ro_w0 hA 0) ?_
  refine gr_iconst (v := nI 0) dX5_find_5 rfl ?_
  refine gr_istore_n dX5_find_6 (by decide) rfl ?_
  exact c_fd_copy l E d h A hA b _ q hb hbA f p i w s hp hi hw hs rfl 0 rfl 7 r 0 (by omega) (fun j hj => absurd hj (by omega)) hr
end
section
/-! LinearSystem: its block of cells, freeLine, scaleLine, clearColumn -/
def optI (o : Option Nat) : Int32 := match o with
  | none => -1
  | some i => nI i
def bI (b : Bool) : Int32 := if b then nI 1 else nI 0
theorem ga_ov_base {h : ga_H} {A : Nat → Nat} {c : Nat → va_E} {q : Nat} {x : va_E} : ∀ {n : Nat}, (∀ k, k < n → q ≠ A k) → ga_up (ga_ov h A c n) q x = ga_ov (ga_up h q x) A c n
  | 0, _ => rfl
  | n + 1, hq => by
    show ga_up (ga_up (ga_ov h A c n) (A n) (c n)) q x = ga_up (ga_ov (ga_up h q x) A c n) (A n) (c n)
    rw [ga_up_comm _ _ _ (fun z => hq n (Nat.lt_succ_self n) z.symm), ga_ov_base (fun k hk => hq k (Nat.lt_succ_of_lt hk))]
def lsR (A : Nat → Nat) (N o : Nat) : Nat → Option Nat := fun i => if i < N then some (A (o + i)) else none
def lsC (E : ga_E) (A : Nat → Nat) (C : Nat → Nat → zp) (u : Nat → Bool) (pv : Nat → Option Nat) (t : Nat → zp) : Nat → va_E
  | 0 => ga_o 4 [.ref (A 1), .ref (A 21), .ref (A 22), .ref (A 23)]
  | 1 => ga_ii E 19 (lsR A 19 2)
  | k + 2 => if k < 19 then ga_f E 14 (C k) else if k = 19 then ga_z E 19 (fun j => bI (u j)) else if k = 20 then ga_i E 13 (fun j => optI (pv j)) else ga_f E 19 t
def lsH (E : ga_E) (h : ga_H) (A : Nat → Nat) (C : Nat → Nat → zp) (u : Nat → Bool) (pv : Nat → Option Nat) (t : Nat → zp) : ga_H := ga_ov h A (lsC E A C u pv t) 24
section LS
variable {E : ga_E} {h : ga_H} {A : Nat → Nat} {C : Nat → Nat → zp} {u : Nat → Bool} {pv : Nat → Option Nat} {t : Nat → zp}
theorem ls_0 (hA : ga_inj A 24) : lsH E h A C u pv t (A 0) = some (ga_o 4 [.ref (A 1), .ref (A 21), .ref (A 22), .ref (A 23)]) := ga_ov_at hA (by decide)
theorem ls_1 (hA : ga_inj A 24) : lsH E h A C u pv t (A 1) = some (ga_ii E 19 (lsR A 19 2)) := ga_ov_at hA (by decide)
theorem ls_r (hA : ga_inj A 24) {i : Nat} (hi : i < 19) : lsH E h A C u pv t (A (2 + i)) = some (ga_f E 14 (C i)) := by
  have e : lsC E A C u pv t (2 + i) = ga_f E 14 (C i) := by rw [Nat.add_comm]; exact if_pos hi
  rw [← e]
  exact ga_ov_at hA (by omega)
theorem ls_21 (hA : ga_inj A 24) : lsH E h A C u pv t (A 21) = some (ga_z E 19 (fun j => bI (u j))) := ga_ov_at hA (by decide)
theorem ls_22 (hA : ga_inj A 24) : lsH E h A C u pv t (A 22) = some (ga_i E 13 (fun j => optI (pv j))) := ga_ov_at hA (by decide)
theorem ls_23 (hA : ga_inj A 24) : lsH E h A C u pv t (A 23) = some (ga_f E 19 t) := ga_ov_at hA (by decide)
theorem ls_R {i : Nat} (hi : i < 19) : lsR A 19 2 i = some (A (2 + i)) := if_pos hi
theorem ls_wr (hA : ga_inj A 24) {i : Nat} (hi : i < 19) (v : Nat → zp) : ga_up (lsH E h A C u pv t) (A (2 + i)) (ga_f E 14 v) = lsH E h A (va_up C i v) u pv t := by
  unfold lsH
  rw [ga_ov_up hA (by omega)]
  refine ga_ov_congr (fun j hj => ?_)
  by_cases e : j = 2 + i
  · subst e
    rw [show va_up (lsC E A C u pv t) (2 + i) (ga_f E 14 v) (2 + i) = ga_f E 14 v from if_pos rfl, Nat.add_comm 2 i]
    show _ = if i < 19 then ga_f E 14 (va_up C i v i) else _
    rw [if_pos hi, show va_up C i v i = v from if_pos rfl]
  · rw [show va_up (lsC E A C u pv t) (2 + i) (ga_f E 14 v) j = lsC E A C u pv t j from if_neg e]
    match j, e with
    | 0, _ => rfl
    | 1, _ => rfl
    | k + 2, e =>
      show (if k < 19 then ga_f E 14 (C k) else _) = if k < 19 then ga_f E 14 (va_up C i v k) else _
      rw [show va_up C i v k = C k from if_neg (by omega)]
theorem ls_w21 (hA : ga_inj A 24) (v : Nat → Bool) : ga_up (lsH E h A C u pv t) (A 21) (ga_z E 19 (fun j => bI (v j))) = lsH E h A C v pv t := by
  unfold lsH
  rw [ga_ov_up hA (by decide)]
  refine ga_ov_congr (fun j hj => ?_)
  by_cases e : j = 21
  · subst e; rfl
  · rw [show va_up (lsC E A C u pv t) 21 (ga_z E 19 (fun j => bI (v j))) j = lsC E A C u pv t j from if_neg e]
    match j, e with
    | 0, _ => rfl
    | 1, _ => rfl
    | k + 2, e =>
      show (if k < 19 then ga_f E 14 (C k) else if k = 19 then _ else _) = if k < 19 then ga_f E 14 (C k) else if k = 19 then _ else _
      rw [if_neg (show ¬ k = 19 by omega), if_neg (show ¬ k = 19 by omega)]
theorem ls_w22 (hA : ga_inj A 24) (v : Nat → Option Nat) : ga_up (lsH E h A C u pv t) (A 22) (ga_i E 13 (fun j => optI (v j))) = lsH E h A C u v t := by
  unfold lsH
  rw [ga_ov_up hA (by decide)]
  refine ga_ov_congr (fun j hj => ?_)
  by_cases e : j = 22
  · subst e; rfl
  · rw [show va_up (lsC E A C u pv t) 22 (ga_i E 13 (fun j => optI (v j))) j = lsC E A C u pv t j from if_neg e]
    match j, e with
    | 0, _ => rfl
    | 1, _ => rfl
    | k + 2, e =>
      show (if k < 19 then ga_f E 14 (C k) else if k = 19 then _ else if k = 20 then _ else _) = if k < 19 then ga_f E 14 (C k) else if k = 19 then _ else if k = 20 then _ else _
      rw [if_neg (show ¬ k = 20 by omega), if_neg (show ¬ k = 20 by omega)]
theorem ls_w23 (hA : ga_inj A 24) (v : Nat → zp) : ga_up (lsH E h A C u pv t) (A 23) (ga_f E 19 v) = lsH E h A C u pv v := by
  unfold lsH
  rw [ga_ov_up hA (by decide)]
  refine ga_ov_congr (fun j hj => ?_)
  by_cases e : j = 23
  · subst e; rfl
  · rw [show va_up (lsC E A C u pv t) 23 (ga_f E 19 v) j = lsC E A C u pv t j from if_neg e]
    match j, e, hj with
    | 0, _, _ => rfl
    | 1, _, _ => rfl
    | k + 2, e, hj =>
      show (if k < 19 then ga_f E 14 (C k) else if k = 19 then _ else if k = 20 then _ else ga_f E 19 t) = if k < 19 then ga_f E 14 (C k) else if k = 19 then _ else if k = 20 then _ else ga_f E 19 v
      by_cases c1 : k < 19
      · rw [if_pos c1, if_pos c1]
      · by_cases c2 : k = 19
        · rw [if_neg c1, if_neg c1, if_pos c2, if_pos c2]
        · rw [if_neg c1, if_neg c1, if_neg c2, if_neg c2, if_pos (show k = 20 by omega), if_pos (show k = 20 by omega)]
end LS
theorem upd_b (u : Nat → Bool) (k : Nat) (b : Bool) : upd (fun j => bI (u j)) k (bI b) = fun j => bI (va_up u k b j) := by
  funext j; unfold upd va_up; by_cases e : j = k <;> simp [e]
theorem upd_o (u : Nat → Option Nat) (k : Nat) (b : Option Nat) : upd (fun j => optI (u j)) k (optI b) = fun j => optI (va_up u k b j) := by
  funext j; unfold upd va_up; by_cases e : j = k <;> simp [e]
theorem bI_nar (b : Bool) : vp_nar .boolean (bI b) = bI b := by cases b <;> decide

/-- what freeLine answers: an unused line with a number in the column, or that there is none -/
def FL (u : Nat → Bool) (C : Nat → Nat → zp) (c : Nat) (o : Option Nat) : Prop := (o = none ∧ ∀ i, i < 19 → u i = true ∨ C i c = 0) ∨ ∃ i, o = some i ∧ i < 19 ∧ u i = false ∧ C i c ≠ 0

set_option maxHeartbeats 4000000 in
set_option maxRecDepth 100000 in
theorem c_fl_loop (l : Launch) (E : ga_E) (d : Nat) (h : ga_H) (A : Nat → Nat) (hA : ga_inj A 24) (C : Nat → Nat → zp) (u : Nat → Bool) (pv : Nat → Option Nat) (t : Nat → zp) (c : Nat) (hc : c < 13) : ∀ (g i : Nat), i + g = 19 → (∀ j, j < i → u j = true ∨ C j c = 0) → ga_G l E mX2_freeLine (ga_Rm d 0 0) (ga_Z E (fun r0 h' => h' = lsH E h A C u pv t ∧ ∃ o, r0 = some (.int (optI o)) ∧ FL u C c o) 0 0) 2 [some (.ref (A 0)), some (.int (nI c)), some (.int (nI i))] [] (lsH E h A C u pv t) 0 0 := by
  intro g
  induction g with
  | zero =>
    intro i hi hlt
    refine gr_iload_n dX2_freeLine_2 rfl (gr_bipush (v := nI 19) dX2_freeLine_3 (by decide) ?_)
    refine gr_icmpgeN 36 dX2_freeLine_5 (by decide) (by omega) (by decide) (fun _ => ?_) (fun z => absurd z (by omega))
    refine gr_iconst (v := -1) dX2_freeLine_36 (by decide) ?_
    exact gr_ireturn dX2_freeLine_37 rfl (Nat.le_refl _) (Nat.le_refl _) ⟨rfl, none, rfl, Or.inl ⟨rfl, fun j hj => hlt j (by omega)⟩⟩
  | succ g ih =>
    intro i hi hlt
    refine gr_iload_n dX2_freeLine_2 rfl (gr_bipush (v := nI 19) dX2_freeLine_3 (by decide) ?_)
    refine gr_icmpgeN 36 dX2_freeLine_5 (by decide) (by omega) (by decide) (fun z => absurd z (by omega)) (fun _ => ?_)
    refine gr_aload_n dX2_freeLine_8 rfl ?_
    refine gr_getf dX2_freeLine_9 cls_X2 1 (by decide) fl_X2_16 (ls_0 hA) rfl ?_
    refine gr_iload_n dX2_freeLine_12 rfl ?_
    refine gr_zaload dX2_freeLine_13 (ls_21 hA) (by omega) (by decide) ?_
    refine gr_ifne 30 dX2_freeLine_14 (by decide) (fun c_14 => ?_) (fun c_14 => ?_)
    · refine gr_iinc (v := nI (_ + 1)) dX2_freeLine_30 rfl (nI_1 _) (by decide) rfl ?_
      refine gr_goto 2 dX2_freeLine_33 (by decide) ?_
      refine ih (i + 1) (by omega) (fun j hj => ?_)
      by_cases e : j = i
      · subst e
        first
          | exact Or.inr (Fin.ext c_25)
          | exact Or.inl (by cases e : u j with
              | true => rfl
              | false => rw [e] at c_14; exact absurd rfl c_14)
      · exact hlt j (by omega)
    · refine gr_aload_n dX2_freeLine_17 rfl ?_
      refine gr_getf dX2_freeLine_18 cls_X2 0 (by decide) fl_X2_11 (ls_0 hA) rfl ?_
      refine gr_iload_n dX2_freeLine_21 rfl ?_
      refine gr_aaloadI dX2_freeLine_22 (ls_1 hA) (by omega) (by decide) (ls_R (by omega)) ?_
      refine gr_iload_n dX2_freeLine_23 rfl ?_
      refine gr_ialoadF dX2_freeLine_24 (ls_r hA (by omega)) (by omega) (by decide) ?_
      refine gr_ifeqN 30 dX2_freeLine_25 (by decide) (by have := zl (C i c); omega) (fun c_25 => ?_) (fun c_25 => ?_)
      · refine gr_iinc (v := nI (_ + 1)) dX2_freeLine_30 rfl (nI_1 _) (by decide) rfl ?_
        refine gr_goto 2 dX2_freeLine_33 (by decide) ?_
        refine ih (i + 1) (by omega) (fun j hj => ?_)
        by_cases e : j = i
        · subst e
          first
            | exact Or.inr (Fin.ext c_25)
            | exact Or.inl (by cases e : u j with
                | true => rfl
                | false => rw [e] at c_14; exact absurd rfl c_14)
        · exact hlt j (by omega)
      · refine gr_iload_n dX2_freeLine_28 rfl ?_
        exact gr_ireturn dX2_freeLine_29 rfl (Nat.le_refl _) (Nat.le_refl _) ⟨rfl, some i, rfl, Or.inr ⟨i, rfl, by omega, by cases e : u i with
              | false => rfl
              | true => rw [e] at c_14; exact absurd c_14 (by decide), fun z => c_25 (by rw [z]; rfl)⟩⟩

set_option maxHeartbeats 4000000 in
set_option maxRecDepth 100000 in
theorem c_freeLine (l : Launch) (E : ga_E) (d : Nat) (h : ga_H) (A : Nat → Nat) (hA : ga_inj A 24) (C : Nat → Nat → zp) (u : Nat → Bool) (pv : Nat → Option Nat) (t : Nat → zp) (c : Nat) (hc : c < 13) : ga_Ok l E d mX2_freeLine [.ref (A 0), .int (nI c)] (lsH E h A C u pv t) 0 0 (fun r0 h' => h' = lsH E h A C u pv t ∧ ∃ o, r0 = some (.int (optI o)) ∧ FL u C c o) := by
  refine ga_Ok.of 1 _ (by decide) rfl (Nat.le_of_ble_eq_true rfl) rfl ?_
  refine gr_iconst (v := nI 0) dX2_freeLine_0 rfl (gr_istore_n dX2_freeLine_1 (by decide) rfl ?_)
  exact c_fl_loop l E d h A hA C u pv t c hc 19 0 (by omega) (fun j hj => absurd hj (by omega))

def sclI (v : Nat → zp) (z : zp) (k : Nat) : Nat → zp := fun j => if j < k then v j * z else v j
def scl (C : Nat → Nat → zp) (i : Nat) (z : zp) : Nat → Nat → zp := va_up C i (sclI (C i) z 14)
theorem sclI_up (v : Nat → zp) (z : zp) (k : Nat) : va_up (sclI v z k) k (sclI v z k k * z) = sclI v z (k + 1) := by
  funext j; unfold va_up sclI
  by_cases e : j = k
  · subst e; simp
  · by_cases h : j < k
    · simp [e, h, Nat.lt_succ_of_lt h]
    · simp [e, h, show ¬ j < k + 1 by omega]
theorem sclI_0 (v : Nat → zp) (z : zp) : sclI v z 0 = v := by
  funext j; unfold sclI; simp
theorem va_uu {α : Type} (f : Nat → α) (k : Nat) (v w : α) : va_up (va_up f k v) k w = va_up f k w := by
  funext j; unfold va_up; by_cases e : j = k <;> simp [e]
theorem va_uself {α : Type} (f : Nat → α) (k : Nat) : va_up f k (f k) = f := by
  funext j; unfold va_up; by_cases e : j = k <;> simp [e]
theorem va_us {α : Type} {f : Nat → α} {k : Nat} {v : α} : va_up f k v k = v := if_pos rfl
theorem va_un {α : Type} {f : Nat → α} {k j : Nat} {v : α} (h : j ≠ k) : va_up f k v j = f j := if_neg h

set_option maxHeartbeats 4000000 in
set_option maxRecDepth 100000 in
theorem c_sc_loop (l : Launch) (E : ga_E) (d : Nat) (h : ga_H) (A : Nat → Nat) (hA : ga_inj A 24) (C : Nat → Nat → zp) (u : Nat → Bool) (pv : Nat → Option Nat) (t : Nat → zp) (i : Nat) (hi : i < 19) (z : zp) : ∀ (g k : Nat), k + g = 14 → ga_G l E mX2_scaleLine (ga_Rm d 0 0) (ga_Z E (fun r0 h' => h' = lsH E h A (scl C i z) u pv t ∧ r0 = none) 0 0) 2 [some (.ref (A 0)), some (.int (nI i)), some (.int (nI z.val)), some (.int (nI k))] [] (lsH E h A (va_up C i (sclI (C i) z k)) u pv t) 0 0 := by
  intro g
  induction g with
  | zero =>
    intro k hk
    refine gr_iload_n dX2_scaleLine_2 rfl (gr_bipush (v := nI 13) dX2_scaleLine_3 (by decide) ?_)
    refine gr_icmpgtN 36 dX2_scaleLine_5 (by decide) (by omega) (by decide) (fun _ => ?_) (fun z => absurd z (by omega))
    exact gr_return dX2_scaleLine_36 rfl (Nat.le_refl _) (Nat.le_refl _) ⟨by rw [show k = 14 by omega]; rfl, rfl⟩
  | succ g ih =>
    intro k hk
    refine gr_iload_n dX2_scaleLine_2 rfl (gr_bipush (v := nI 13) dX2_scaleLine_3 (by decide) ?_)
    refine gr_icmpgtN 36 dX2_scaleLine_5 (by decide) (by omega) (by decide) (fun z => absurd z (by omega)) (fun _ => ?_)
    refine gr_aload_n dX2_scaleLine_8 rfl ?_
    refine gr_getf dX2_scaleLine_9 cls_X2 0 (by decide) fl_X2_11 (ls_0 hA) rfl ?_
    refine gr_iload_n dX2_scaleLine_12 rfl ?_
    refine gr_aaloadI dX2_scaleLine_13 (ls_1 hA) (by omega) (by decide) (ls_R (by omega)) ?_
    refine gr_iload_n dX2_scaleLine_14 rfl ?_
    refine gr_aload_n dX2_scaleLine_15 rfl ?_
    refine gr_getf dX2_scaleLine_16 cls_X2 0 (by decide) fl_X2_11 (ls_0 hA) rfl ?_
    refine gr_iload_n dX2_scaleLine_19 rfl ?_
    refine gr_aaloadI dX2_scaleLine_20 (ls_1 hA) (by omega) (by decide) (ls_R (by omega)) ?_
    refine gr_iload_n dX2_scaleLine_21 rfl ?_
    refine gr_ialoadF dX2_scaleLine_22 (ls_r hA (by omega)) (by omega) (by decide) ?_
    rw [va_us]
    refine gr_iload_n dX2_scaleLine_23 rfl ?_
    refine gr_mulP dX2_scaleLine_24 dX2_scaleLine_25 dX2_scaleLine_28 ?_
    refine gr_iastoreF dX2_scaleLine_29 (ls_r hA (by omega)) (by omega) (by decide) ?_
    rw [ls_wr hA (by omega), va_us, va_uu, sclI_up]
    refine gr_iinc (v := nI (_ + 1)) dX2_scaleLine_30 rfl (nI_1 _) (by decide) rfl ?_
    refine gr_goto 2 dX2_scaleLine_33 (by decide) ?_
    exact ih (k + 1) (by omega)

set_option maxHeartbeats 4000000 in
set_option maxRecDepth 100000 in
theorem c_scaleLine (l : Launch) (E : ga_E) (d : Nat) (h : ga_H) (A : Nat → Nat) (hA : ga_inj A 24) (C : Nat → Nat → zp) (u : Nat → Bool) (pv : Nat → Option Nat) (t : Nat → zp) (i : Nat) (hi : i < 19) (z : zp) : ga_Ok l E d mX2_scaleLine [.ref (A 0), .int (nI i), .int (nI z.val)] (lsH E h A C u pv t) 0 0 (fun r0 h' => h' = lsH E h A (scl C i z) u pv t ∧ r0 = none) := by
  refine ga_Ok.of 1 _ (by decide) rfl (Nat.le_of_ble_eq_true rfl) rfl ?_
  refine gr_iconst (v := nI 0) dX2_scaleLine_0 rfl (gr_istore_n dX2_scaleLine_1 (by decide) rfl ?_)
  refine gr_h (show lsH E h A C u pv t = lsH E h A (va_up C i (sclI (C i) z 0)) u pv t by rw [sclI_0, va_uself]) ?_
  exact c_sc_loop l E d h A hA C u pv t i hi z 14 0 (by omega)

/-- a line less a multiple of the pivot's, from column c on, k columns of it *)-/
def clI (v w : Nat → zp) (s : zp) (c k : Nat) : Nat → zp := fun j => if c ≤ j ∧ j < k then v j - s * w j else v j
def clr (C : Nat → Nat → zp) (c p : Nat) : Nat → Nat → zp := fun i => if i < 19 ∧ i ≠ p then clI (C i) (C p) (C i c) c 14 else C i
def clrI (C : Nat → Nat → zp) (c p n : Nat) : Nat → Nat → zp := fun i => if i < n ∧ i ≠ p then clI (C i) (C p) (C i c) c 14 else C i
theorem clI_up {v w : Nat → zp} {s : zp} {c k : Nat} (h : c ≤ k) : va_up (clI v w s c k) k (v k - s * w k) = clI v w s c (k + 1) := by
  funext j; unfold va_up clI
  by_cases e : j = k
  · subst e; rw [if_pos rfl, if_pos (by omega)]
  · by_cases h2 : c ≤ j ∧ j < k
    · rw [if_neg e, if_pos h2, if_pos (by omega)]
    · rw [if_neg e, if_neg h2, if_neg (by omega)]
theorem clI_at {v w : Nat → zp} {s : zp} {c k : Nat} : clI v w s c k k = v k := if_neg (by omega)
theorem clI_c (v w : Nat → zp) (s : zp) (c : Nat) : clI v w s c c = v := by
  funext j; unfold clI; rw [if_neg (by omega)]
theorem clI_z {v w : Nat → zp} {s : zp} {c k : Nat} (h : s = 0) : clI v w s c k = v := by
  funext j; unfold clI
  split
  · rw [h]; grind
  · rfl
theorem clrI_0 (C : Nat → Nat → zp) (c p : Nat) : clrI C c p 0 = C := by
  funext i; unfold clrI; rw [if_neg (by omega)]
theorem clrI_p (C : Nat → Nat → zp) (c p n : Nat) : clrI C c p n p = C p := if_neg (by omega)
theorem clrI_n (C : Nat → Nat → zp) (c p n : Nat) : clrI C c p n n = C n := if_neg (by omega)
theorem clrI_up {C : Nat → Nat → zp} {c p n : Nat} (h : n ≠ p) : va_up (clrI C c p n) n (clI (C n) (C p) (C n c) c 14) = clrI C c p (n + 1) := by
  funext i; unfold va_up clrI
  by_cases e : i = n
  · subst e; rw [if_pos rfl, if_pos ⟨by omega, h⟩]
  · by_cases h2 : i < n ∧ i ≠ p
    · rw [if_neg e, if_pos h2, if_pos ⟨by omega, h2.2⟩]
    · rw [if_neg e, if_neg h2, if_neg (fun z => h2 ⟨by omega, z.2⟩)]
theorem clrI_skip {C : Nat → Nat → zp} {c p n : Nat} (h : n = p ∨ C n c = 0) : clrI C c p n = clrI C c p (n + 1) := by
  funext i; unfold clrI
  by_cases e : i = n
  · subst e
    rw [if_neg (by omega)]
    rcases h with h | h
    · rw [if_neg (by omega)]
    · split
      · rw [clI_z h]
      · rfl
  · by_cases h2 : i < n ∧ i ≠ p
    · rw [if_pos h2, if_pos ⟨by omega, h2.2⟩]
    · rw [if_neg h2, if_neg (fun z => h2 ⟨by omega, z.2⟩)]

set_option maxHeartbeats 4000000 in
set_option maxRecDepth 100000 in
theorem c_cl_inner (l : Launch) (E : ga_E) (d : Nat) (h : ga_H) (A : Nat → Nat) (hA : ga_inj A 24) (C : Nat → Nat → zp) (u : Nat → Bool) (pv : Nat → Option Nat) (t : Nat → zp) (c p : Nat) (hc : c < 13) (hp : p < 19) (n : Nat) (hn : n < 19) (hnp : n ≠ p) (kx : ∀ x5 : Option Value, ga_G l E mX2_clearColumn (ga_Rm (d + 1) 0 0) (ga_Z E (fun r0 h' => h' = lsH E h A (clr C c p) u pv t ∧ r0 = none) 0 0) 79 [some (.ref (A 0)), some (.int (nI c)), some (.int (nI p)), some (.int (nI n)), some (.int (nI (C n c).val)), x5] [] (lsH E h A (clrI C c p (n + 1)) u pv t) 0 0) : ∀ (g k : Nat), k + g = 14 → c ≤ k → ga_G l E mX2_clearColumn (ga_Rm (d + 1) 0 0) (ga_Z E (fun r0 h' => h' = lsH E h A (clr C c p) u pv t ∧ r0 = none) 0 0) 34 [some (.ref (A 0)), some (.int (nI c)), some (.int (nI p)), some (.int (nI n)), some (.int (nI (C n c).val)), some (.int (nI k))] [] (lsH E h A (va_up (clrI C c p n) n (clI (C n) (C p) (C n c) c k)) u pv t) 0 0 := by
  intro g
  induction g with
  | zero =>
    intro k hk hck
    refine gr_iload dX2_clearColumn_34 rfl (gr_bipush (v := nI 13) dX2_clearColumn_36 (by decide) ?_)
    refine gr_icmpgtN 79 dX2_clearColumn_38 (by decide) (by omega) (by decide) (fun _ => ?_) (fun z => absurd z (by omega))
    rw [show k = 14 by omega, clrI_up hnp]
    exact kx _
  | succ g ih =>
    intro k hk hck
    refine gr_iload dX2_clearColumn_34 rfl (gr_bipush (v := nI 13) dX2_clearColumn_36 (by decide) ?_)
    refine gr_icmpgtN 79 dX2_clearColumn_38 (by decide) (by omega) (by decide) (fun z => absurd z (by omega)) (fun _ => ?_)
    refine gr_aload_n dX2_clearColumn_41 rfl ?_
    refine gr_getf dX2_clearColumn_42 cls_X2 0 (by decide) fl_X2_11 (ls_0 hA) rfl ?_
    refine gr_iload_n dX2_clearColumn_45 rfl ?_
    refine gr_aaloadI dX2_clearColumn_46 (ls_1 hA) (by omega) (by decide) (ls_R (by omega)) ?_
    refine gr_iload dX2_clearColumn_47 rfl ?_
    refine gr_aload_n dX2_clearColumn_49 rfl ?_
    refine gr_getf dX2_clearColumn_50 cls_X2 0 (by decide) fl_X2_11 (ls_0 hA) rfl ?_
    refine gr_iload_n dX2_clearColumn_53 rfl ?_
    refine gr_aaloadI dX2_clearColumn_54 (ls_1 hA) (by omega) (by decide) (ls_R (by omega)) ?_
    refine gr_iload dX2_clearColumn_55 rfl ?_
    refine gr_ialoadF dX2_clearColumn_57 (ls_r hA (by omega)) (by omega) (by decide) ?_
    rw [va_us, clI_at]
    refine gr_iload dX2_clearColumn_58 rfl ?_
    refine gr_aload_n dX2_clearColumn_60 rfl ?_
    refine gr_getf dX2_clearColumn_61 cls_X2 0 (by decide) fl_X2_11 (ls_0 hA) rfl ?_
    refine gr_iload_n dX2_clearColumn_64 rfl ?_
    refine gr_aaloadI dX2_clearColumn_65 (ls_1 hA) (by omega) (by decide) (ls_R (by omega)) ?_
    refine gr_iload dX2_clearColumn_66 rfl ?_
    refine gr_ialoadF dX2_clearColumn_68 (ls_r hA (by omega)) (by omega) (by decide) ?_
    rw [va_un (fun z => hnp z.symm), clrI_p]
    refine gr_callS dX2_clearColumn_69 (c_less l E d _ (C n k) (C n c) (C p k)) ysX3_less ⟨ml_X2_68, sm_X3_less⟩ rfl rfl (Nat.le_of_ble_eq_true rfl) ⟨(Nat.le_refl _), (Nat.le_refl _)⟩ ⟨(Nat.le_refl _), (Nat.le_refl _)⟩ (fun r0 h1 hp9 => ?_)
    obtain ⟨e1, rfl⟩ := hp9
    subst h1
    refine gr_iastoreF dX2_clearColumn_72 (ls_r hA (by omega)) (by omega) (by decide) ?_
    rw [ls_wr hA (by omega), va_us, va_uu, clI_up (by omega)]
    refine gr_iinc (v := nI (_ + 1)) dX2_clearColumn_73 rfl (nI_1 _) (by decide) rfl ?_
    refine gr_goto 34 dX2_clearColumn_76 (by decide) ?_
    exact ih (k + 1) (by omega) (by omega)

set_option maxHeartbeats 4000000 in
set_option maxRecDepth 100000 in
theorem c_cl_outer (l : Launch) (E : ga_E) (d : Nat) (h : ga_H) (A : Nat → Nat) (hA : ga_inj A 24) (C : Nat → Nat → zp) (u : Nat → Bool) (pv : Nat → Option Nat) (t : Nat → zp) (c p : Nat) (hc : c < 13) (hp : p < 19) : ∀ (g n : Nat) (x4 x5 : Option Value), n + g = 19 → ga_G l E mX2_clearColumn (ga_Rm (d + 1) 0 0) (ga_Z E (fun r0 h' => h' = lsH E h A (clr C c p) u pv t ∧ r0 = none) 0 0) 2 [some (.ref (A 0)), some (.int (nI c)), some (.int (nI p)), some (.int (nI n)), x4, x5] [] (lsH E h A (clrI C c p n) u pv t) 0 0 := by
  intro g
  induction g with
  | zero =>
    intro n x4 x5 hn
    refine gr_iload_n dX2_clearColumn_2 rfl (gr_bipush (v := nI 19) dX2_clearColumn_3 (by decide) ?_)
    refine gr_icmpgeN 85 dX2_clearColumn_5 (by decide) (by omega) (by decide) (fun _ => ?_) (fun z => absurd z (by omega))
    exact gr_return dX2_clearColumn_85 rfl (Nat.le_refl _) (Nat.le_refl _) ⟨by rw [show n = 19 by omega]; rfl, rfl⟩
  | succ g ih =>
    intro n x4 x5 hn
    refine gr_iload_n dX2_clearColumn_2 rfl (gr_bipush (v := nI 19) dX2_clearColumn_3 (by decide) ?_)
    refine gr_icmpgeN 85 dX2_clearColumn_5 (by decide) (by omega) (by decide) (fun z => absurd z (by omega)) (fun _ => ?_)
    refine gr_aload_n dX2_clearColumn_8 rfl ?_
    refine gr_getf dX2_clearColumn_9 cls_X2 0 (by decide) fl_X2_11 (ls_0 hA) rfl ?_
    refine gr_iload_n dX2_clearColumn_12 rfl ?_
    refine gr_aaloadI dX2_clearColumn_13 (ls_1 hA) (by omega) (by decide) (ls_R (by omega)) ?_
    refine gr_iload_n dX2_clearColumn_14 rfl ?_
    refine gr_ialoadF dX2_clearColumn_15 (ls_r hA (by omega)) (by omega) (by decide) ?_
    rw [clrI_n]
    refine gr_istore dX2_clearColumn_16 (by decide) rfl ?_
    refine gr_iload_n dX2_clearColumn_18 rfl ?_
    refine gr_iload_n dX2_clearColumn_19 rfl ?_
    refine gr_icmpeqN 79 dX2_clearColumn_20 (by decide) (by omega) (by omega) (fun c_20 => ?_) (fun c_20 => ?_)
    · rw [clrI_skip (Or.inl c_20)]
      refine gr_iinc (v := nI (_ + 1)) dX2_clearColumn_79 rfl (nI_1 _) (by decide) rfl ?_
      refine gr_goto 2 dX2_clearColumn_82 (by decide) ?_
      exact ih (n + 1) _ _ (by omega)
    · refine gr_iload dX2_clearColumn_23 rfl ?_
      refine gr_ifneN 31 dX2_clearColumn_25 (by decide) (by have := zl (C n c); omega) (fun c_25 => ?_) (fun c_25 => ?_)
      · refine gr_iload_n dX2_clearColumn_31 rfl ?_
        refine gr_istore dX2_clearColumn_32 (by decide) rfl ?_
        refine gr_h (show lsH E h A (clrI C c p n) u pv t = lsH E h A (va_up (clrI C c p n) n (clI (C n) (C p) (C n c) c c)) u pv t by rw [clI_c, ← clrI_n C c p n, va_uself]) ?_
        refine c_cl_inner l E d h A hA C u pv t c p hc hp n (by omega) c_20 (fun y5 => ?_) (14 - c) c (by omega) (Nat.le_refl _)
        refine gr_iinc (v := nI (_ + 1)) dX2_clearColumn_79 rfl (nI_1 _) (by decide) rfl ?_
        refine gr_goto 2 dX2_clearColumn_82 (by decide) ?_
        exact ih (n + 1) _ _ (by omega)
      · refine gr_goto 79 dX2_clearColumn_28 (by decide) ?_
        rw [clrI_skip (Or.inr (Fin.ext c_25))]
        refine gr_iinc (v := nI (_ + 1)) dX2_clearColumn_79 rfl (nI_1 _) (by decide) rfl ?_
        refine gr_goto 2 dX2_clearColumn_82 (by decide) ?_
        exact ih (n + 1) _ _ (by omega)

set_option maxHeartbeats 4000000 in
set_option maxRecDepth 100000 in
theorem c_clearColumn (l : Launch) (E : ga_E) (d : Nat) (h : ga_H) (A : Nat → Nat) (hA : ga_inj A 24) (C : Nat → Nat → zp) (u : Nat → Bool) (pv : Nat → Option Nat) (t : Nat → zp) (c p : Nat) (hc : c < 13) (hp : p < 19) : ga_Ok l E (d + 1) mX2_clearColumn [.ref (A 0), .int (nI c), .int (nI p)] (lsH E h A C u pv t) 0 0 (fun r0 h' => h' = lsH E h A (clr C c p) u pv t ∧ r0 = none) := by
  refine ga_Ok.of 3 _ (by decide) rfl (Nat.le_of_ble_eq_true rfl) rfl ?_
  refine gr_iconst (v := nI 0) dX2_clearColumn_0 rfl (gr_istore_n dX2_clearColumn_1 (by decide) rfl ?_)
  refine gr_h (show lsH E h A C u pv t = lsH E h A (clrI C c p 0) u pv t by rw [clrI_0]) ?_
  exact c_cl_outer l E d h A hA C u pv t c p hc hp 19 0 _ _ (by omega)
end
section
/-! LinearSystem: eliminate, leftOver, copyParticularTo; Row; copyRowTo -/
def elC (C : Nat → Nat → zp) (c : Nat) (o : Option Nat) : Nat → Nat → zp := match o with
  | none => C
  | some i => clr (scl C i (zinv (C i c))) c i
def elU (u : Nat → Bool) (o : Option Nat) : Nat → Bool := match o with
  | none => u
  | some i => va_up u i true

set_option maxHeartbeats 4000000 in
set_option maxRecDepth 100000 in
theorem c_el_loop (l : Launch) (E : ga_E) (d : Nat) (h : ga_H) (A : Nat → Nat) (hA : ga_inj A 24) (t : Nat → zp) (I : Nat → (Nat → Nat → zp) → (Nat → Bool) → (Nat → Option Nat) → Prop) (hI : ∀ (c : Nat) (C : Nat → Nat → zp) (u : Nat → Bool) (pv : Nat → Option Nat) (o : Option Nat), c < 13 → I c C u pv → FL u C c o → I (c + 1) (elC C c o) (elU u o) (va_up pv c o)) : ∀ (g c : Nat) (C : Nat → Nat → zp) (u : Nat → Bool) (pv : Nat → Option Nat) (x2 : Option Value), c + g = 13 → I c C u pv → ga_G l E mX2_eliminate (ga_Rm (d + 2) 0 0) (ga_Z E (fun r0 h' => ∃ C' u' pv', I 13 C' u' pv' ∧ h' = lsH E h A C' u' pv' t ∧ r0 = none) 0 0) 23 [some (.ref (A 0)), some (.int (nI c)), x2] [] (lsH E h A C u pv t) 0 0 := by
  intro g
  induction g with
  | zero =>
    intro c C u pv x2 hg hc
    refine gr_iload_n dX2_eliminate_23 rfl (gr_bipush (v := nI 13) dX2_eliminate_24 (by decide) ?_)
    refine gr_icmpgeN 81 dX2_eliminate_26 (by decide) (by omega) (by decide) (fun _ => ?_) (fun z => absurd z (by omega))
    exact gr_return dX2_eliminate_81 rfl (Nat.le_refl _) (Nat.le_refl _) ⟨C, u, pv, by rw [show 13 = c by omega]; exact hc, rfl, rfl⟩
  | succ g ih =>
    intro c C u pv x2 hg hc
    refine gr_iload_n dX2_eliminate_23 rfl (gr_bipush (v := nI 13) dX2_eliminate_24 (by decide) ?_)
    refine gr_icmpgeN 81 dX2_eliminate_26 (by decide) (by omega) (by decide) (fun z => absurd z (by omega)) (fun _ => ?_)
    refine gr_aload_n dX2_eliminate_29 rfl ?_
    refine gr_iload_n dX2_eliminate_30 rfl ?_
    refine gr_callV dX2_eliminate_31 (c_freeLine l E (d + 1) h A hA C u pv t c (by omega)) ysX2_freeLine ⟨ml_X2_55, im_X2_freeLine, sl_X2_freeLine⟩ (ls_0 hA) (show vwCl[4]? = some (RX2, TX2, _) from rfl) rfl rfl (Nat.le_of_ble_eq_true rfl) ⟨(Nat.le_refl _), (Nat.le_refl _)⟩ ⟨(Nat.le_refl _), (Nat.le_refl _)⟩ (fun r0 h1 hp9 => ?_)
    obtain ⟨e1, o, rfl, hfl⟩ := hp9
    subst h1
    have hnx := hI c C u pv o (by omega) hc hfl
    refine gr_istore_n dX2_eliminate_34 (by decide) rfl ?_
    refine gr_aload_n dX2_eliminate_35 rfl ?_
    refine gr_getf dX2_eliminate_36 cls_X2 2 (by decide) fl_X2_20 (ls_0 hA) rfl ?_
    refine gr_iload_n dX2_eliminate_39 rfl ?_
    refine gr_iload_n dX2_eliminate_40 rfl ?_
    refine gr_iastore dX2_eliminate_41 (ls_22 hA) (by omega) (by decide) ?_
    rw [upd_o, ls_w22 hA]
    rcases hfl with ⟨rfl, -⟩ | ⟨i, rfl, hi, -, -⟩
    · refine gr_iload_n dX2_eliminate_42 rfl ?_
      refine gr_iflt 75 dX2_eliminate_43 (by decide) (fun _ => ?_) (fun z => absurd (by decide) z)
      refine gr_iinc (v := nI (_ + 1)) dX2_eliminate_75 rfl (nI_1 _) (by decide) rfl ?_
      refine gr_goto 23 dX2_eliminate_78 (by decide) ?_
      exact ih (c + 1) _ _ _ _ (by omega) hnx
    · refine gr_iload_n dX2_eliminate_42 rfl ?_
      refine gr_ifltN dX2_eliminate_43 75 (by decide) (by omega) ?_ --one
      refine gr_aload_n dX2_eliminate_46 rfl ?_
      refine gr_getf dX2_eliminate_47 cls_X2 1 (by decide) fl_X2_16 (ls_0 hA) rfl ?_
      refine gr_iload_n dX2_eliminate_50 rfl ?_
      refine gr_iconst (v := bI true) dX2_eliminate_51 rfl ?_
      refine gr_zastore dX2_eliminate_52 (ls_21 hA) (by omega) (by decide) (bI_nar true) ?_
      rw [upd_b, ls_w21 hA]
      refine gr_aload_n dX2_eliminate_53 rfl ?_
      refine gr_iload_n dX2_eliminate_54 rfl ?_
      refine gr_aload_n dX2_eliminate_55 rfl ?_
      refine gr_getf dX2_eliminate_56 cls_X2 0 (by decide) fl_X2_11 (ls_0 hA) rfl ?_
      refine gr_iload_n dX2_eliminate_59 rfl ?_
      refine gr_aaloadI dX2_eliminate_60 (ls_1 hA) (by omega) (by decide) (ls_R (by omega)) ?_
      refine gr_iload_n dX2_eliminate_61 rfl ?_
      refine gr_ialoadF dX2_eliminate_62 (ls_r hA (by omega)) (by omega) (by decide) ?_
      refine gr_callS dX2_eliminate_63 (c_inverse l E (d + 1) _ (C i c)) ysX3_inverse ⟨ml_X2_58, sm_X3_inverse⟩ rfl rfl (Nat.le_of_ble_eq_true rfl) ⟨(Nat.le_refl _), (Nat.le_refl _)⟩ ⟨(Nat.le_refl _), (Nat.le_refl _)⟩ (fun r0 h1 hp9 => ?_)
      obtain ⟨e1, rfl⟩ := hp9
      subst h1
      refine gr_callV dX2_eliminate_66 (c_scaleLine l E (d + 1) h A hA C _ _ t i hi _) ysX2_scaleLine ⟨ml_X2_61, im_X2_scaleLine, sl_X2_scaleLine⟩ (ls_0 hA) (show vwCl[4]? = some (RX2, TX2, _) from rfl) rfl rfl (Nat.le_of_ble_eq_true rfl) ⟨(Nat.le_refl _), (Nat.le_refl _)⟩ ⟨(Nat.le_refl _), (Nat.le_refl _)⟩ (fun r0 h1 hp9 => ?_)
      obtain ⟨e1, rfl⟩ := hp9
      subst h1
      refine gr_aload_n dX2_eliminate_69 rfl ?_
      refine gr_iload_n dX2_eliminate_70 rfl ?_
      refine gr_iload_n dX2_eliminate_71 rfl ?_
      refine gr_callV dX2_eliminate_72 (c_clearColumn l E d h A hA _ _ _ t c i (by omega) hi) ysX2_clearColumn ⟨ml_X2_65, im_X2_clearColumn, sl_X2_clearColumn⟩ (ls_0 hA) (show vwCl[4]? = some (RX2, TX2, _) from rfl) rfl rfl (Nat.le_of_ble_eq_true rfl) ⟨(Nat.le_refl _), (Nat.le_refl _)⟩ ⟨(Nat.le_refl _), (Nat.le_refl _)⟩ (fun r0 h1 hp9 => ?_)
      obtain ⟨e1, rfl⟩ := hp9
      subst h1
      refine gr_iinc (v := nI (_ + 1)) dX2_eliminate_75 rfl (nI_1 _) (by decide) rfl ?_
      refine gr_goto 23 dX2_eliminate_78 (by decide) ?_
      exact ih (c + 1) _ _ _ _ (by omega) hnx

set_option maxHeartbeats 4000000 in
set_option maxRecDepth 100000 in
theorem c_el_zero (l : Launch) (E : ga_E) (d : Nat) (h : ga_H) (A : Nat → Nat) (hA : ga_inj A 24) (t : Nat → zp) (I : Nat → (Nat → Nat → zp) → (Nat → Bool) → (Nat → Option Nat) → Prop) (hI : ∀ (c : Nat) (C : Nat → Nat → zp) (u : Nat → Bool) (pv : Nat → Option Nat) (o : Option Nat), c < 13 → I c C u pv → FL u C c o → I (c + 1) (elC C c o) (elU u o) (va_up pv c o)) (C : Nat → Nat → zp) (pv : Nat → Option Nat) (h0 : ∀ u : Nat → Bool, (∀ j, j < 19 → u j = false) → I 0 C u pv) : ∀ (g a : Nat) (u : Nat → Bool), a + g = 19 → (∀ j, j < a → u j = false) → ga_G l E mX2_eliminate (ga_Rm (d + 2) 0 0) (ga_Z E (fun r0 h' => ∃ C' u' pv', I 13 C' u' pv' ∧ h' = lsH E h A C' u' pv' t ∧ r0 = none) 0 0) 2 [some (.ref (A 0)), some (.int (nI a)), none] [] (lsH E h A C u pv t) 0 0 := by
  intro g
  induction g with
  | zero =>
    intro a u hg hlt
    refine gr_iload_n dX2_eliminate_2 rfl (gr_bipush (v := nI 19) dX2_eliminate_3 (by decide) ?_)
    refine gr_icmpgeN 21 dX2_eliminate_5 (by decide) (by omega) (by decide) (fun _ => ?_) (fun z => absurd z (by omega))
    refine gr_iconst (v := nI 0) dX2_eliminate_21 rfl (gr_istore_n dX2_eliminate_22 (by decide) rfl ?_)
    exact c_el_loop l E d h A hA t I hI 13 0 C u pv _ (by omega) (h0 u (fun j hj => hlt j (by omega)))
  | succ g ih =>
    intro a u hg hlt
    refine gr_iload_n dX2_eliminate_2 rfl (gr_bipush (v := nI 19) dX2_eliminate_3 (by decide) ?_)
    refine gr_icmpgeN 21 dX2_eliminate_5 (by decide) (by omega) (by decide) (fun z => absurd z (by omega)) (fun _ => ?_)
    refine gr_aload_n dX2_eliminate_8 rfl ?_
    refine gr_getf dX2_eliminate_9 cls_X2 1 (by decide) fl_X2_16 (ls_0 hA) rfl ?_
    refine gr_iload_n dX2_eliminate_12 rfl ?_
    refine gr_iconst (v := bI false) dX2_eliminate_13 rfl ?_
    refine gr_zastore dX2_eliminate_14 (ls_21 hA) (by omega) (by decide) (bI_nar false) ?_
    rw [upd_b, ls_w21 hA]
    refine gr_iinc (v := nI (_ + 1)) dX2_eliminate_15 rfl (nI_1 _) (by decide) rfl ?_
    refine gr_goto 2 dX2_eliminate_18 (by decide) ?_
    refine ih (a + 1) _ (by omega) (fun j hj => ?_)
    by_cases e : j = a
    · exact if_pos e
    · exact (if_neg e : va_up u a false j = u j).trans (hlt j (by omega))

set_option maxHeartbeats 4000000 in
set_option maxRecDepth 100000 in
theorem c_eliminate (l : Launch) (E : ga_E) (d : Nat) (h : ga_H) (A : Nat → Nat) (hA : ga_inj A 24) (t : Nat → zp) (I : Nat → (Nat → Nat → zp) → (Nat → Bool) → (Nat → Option Nat) → Prop) (hI : ∀ (c : Nat) (C : Nat → Nat → zp) (u : Nat → Bool) (pv : Nat → Option Nat) (o : Option Nat), c < 13 → I c C u pv → FL u C c o → I (c + 1) (elC C c o) (elU u o) (va_up pv c o)) (C : Nat → Nat → zp) (pv : Nat → Option Nat) (h0 : ∀ u : Nat → Bool, (∀ j, j < 19 → u j = false) → I 0 C u pv) (u : Nat → Bool) : ga_Ok l E (d + 2) mX2_eliminate [.ref (A 0)] (lsH E h A C u pv t) 0 0 (fun r0 h' => ∃ C' u' pv', I 13 C' u' pv' ∧ h' = lsH E h A C' u' pv' t ∧ r0 = none) := by
  refine ga_Ok.of 2 _ (by decide) rfl (Nat.le_of_ble_eq_true rfl) rfl ?_
  refine gr_iconst (v := nI 0) dX2_eliminate_0 rfl (gr_istore_n dX2_eliminate_1 (by decide) rfl ?_)
  exact c_el_zero l E d h A hA t I hI C pv h0 19 0 u (by omega) (fun j hj => absurd hj (by omega))

set_option maxHeartbeats 4000000 in
set_option maxRecDepth 100000 in
theorem c_lo_loop (l : Launch) (E : ga_E) (d : Nat) (h : ga_H) (A : Nat → Nat) (hA : ga_inj A 24) (C : Nat → Nat → zp) (u : Nat → Bool) (pv : Nat → Option Nat) (t : Nat → zp) (b : Nat) (q : Nat → zp) (hbb : lsH E h A C u pv t b = some (ga_f E 13 q)) (i : Nat) (hi : i < 19) : ∀ (g k : Nat), k + g = 13 → ga_G l E mX2_leftOver (ga_Rm (d + 1) 0 0) (ga_Z E (fun r0 h' => h' = lsH E h A C u pv t ∧ r0 = some (.int (nI (-(C i 13) + zs 13 (fun k => C i k * q k)).val))) 0 0) 28 [some (.ref (A 0)), some (.ref b), some (.int (nI i)), some (.int (nI (-(C i 13) + zs k (fun k => C i k * q k)).val)), some (.int (nI k))] [] (lsH E h A C u pv t) 0 0 := by
  intro g
  induction g with
  | zero =>
    intro k hk
    refine gr_iload dX2_leftOver_28 rfl (gr_bipush (v := nI 13) dX2_leftOver_30 (by decide) ?_)
    refine gr_icmpgeN 69 dX2_leftOver_32 (by decide) (by omega) (by decide) (fun _ => ?_) (fun z => absurd z (by omega))
    refine gr_iload_n dX2_leftOver_69 rfl ?_
    exact gr_ireturn dX2_leftOver_70 rfl (Nat.le_refl _) (Nat.le_refl _) ⟨rfl, by rw [show k = 13 by omega]⟩
  | succ g ih =>
    intro k hk
    refine gr_iload dX2_leftOver_28 rfl (gr_bipush (v := nI 13) dX2_leftOver_30 (by decide) ?_)
    refine gr_icmpgeN 69 dX2_leftOver_32 (by decide) (by omega) (by decide) (fun z => absurd z (by omega)) (fun _ => ?_)
    refine gr_iload dX2_leftOver_35 rfl ?_
    refine gr_aload_n dX2_leftOver_37 rfl ?_
    refine gr_alen_i dX2_leftOver_38 hbb ?_
    refine gr_icmpgeN 69 dX2_leftOver_39 (by decide) (by omega) (by decide) (fun z => absurd z (by omega)) (fun _ => ?_)
    refine gr_iload_n dX2_leftOver_42 rfl ?_
    refine gr_aload_n dX2_leftOver_43 rfl ?_
    refine gr_getf dX2_leftOver_44 cls_X2 0 (by decide) fl_X2_11 (ls_0 hA) rfl ?_
    refine gr_iload_n dX2_leftOver_47 rfl ?_
    refine gr_aaloadI dX2_leftOver_48 (ls_1 hA) (by omega) (by decide) (ls_R (by omega)) ?_
    refine gr_iload dX2_leftOver_49 rfl ?_
    refine gr_ialoadF dX2_leftOver_51 (ls_r hA (by omega)) (by omega) (by decide) ?_
    refine gr_aload_n dX2_leftOver_52 rfl ?_
    refine gr_iload dX2_leftOver_53 rfl ?_
    refine gr_ialoadF dX2_leftOver_55 hbb (by omega) (by decide) ?_
    refine gr_imulN dX2_leftOver_56 ?_
    refine gr_iaddN dX2_leftOver_57 ?_
    refine gr_remP dX2_leftOver_58 dX2_leftOver_61 (by have := zmul_lt (C i k) (q k); have := zl (-(C i 13) + zs k (fun k => C i k * q k)); omega) (zmad2 _ _ _) ?_
    refine gr_istore_n dX2_leftOver_62 (by decide) rfl ?_
    refine gr_iinc (v := nI (_ + 1)) dX2_leftOver_63 rfl (nI_1 _) (by decide) rfl ?_
    refine gr_goto 28 dX2_leftOver_66 (by decide) ?_
    rw [show -(C i 13) + zs k (fun k => C i k * q k) + C i k * q k = -(C i 13) + zs (k + 1) (fun k => C i k * q k) by show _ = -(C i 13) + (zs k _ + _); grind]
    exact ih (k + 1) (by omega)

set_option maxHeartbeats 4000000 in
set_option maxRecDepth 100000 in
theorem c_leftOver (l : Launch) (E : ga_E) (d : Nat) (h : ga_H) (A : Nat → Nat) (hA : ga_inj A 24) (C : Nat → Nat → zp) (u : Nat → Bool) (pv : Nat → Option Nat) (t : Nat → zp) (b : Nat) (q : Nat → zp) (hbb : lsH E h A C u pv t b = some (ga_f E 13 q)) (i : Nat) (hi : i < 19) : ga_Ok l E (d + 1) mX2_leftOver [.ref (A 0), .ref b, .int (nI i)] (lsH E h A C u pv t) 0 0 (fun r0 h' => h' = lsH E h A C u pv t ∧ r0 = some (.int (nI (-(C i 13) + zs 13 (fun k => C i k * q k)).val))) := by
  refine ga_Ok.of 2 _ (by decide) rfl (Nat.le_of_ble_eq_true rfl) rfl ?_
  refine gr_iload_n dX2_leftOver_0 rfl ?_
  refine gr_ifltN dX2_leftOver_1 10 (by decide) (by omega) ?_ --one
  refine gr_iload_n dX2_leftOver_4 rfl ?_
  refine gr_bipush (v := nI 19) dX2_leftOver_5 (by decide) ?_
  refine gr_icmpltN 12 dX2_leftOver_7 (by decide) (by omega) (by decide) (fun _ => ?_) (fun z => absurd z (by omega))
  refine gr_aload_n dX2_leftOver_12 rfl ?_
  refine gr_getf dX2_leftOver_13 cls_X2 0 (by decide) fl_X2_11 (ls_0 hA) rfl ?_
  refine gr_iload_n dX2_leftOver_16 rfl ?_
  refine gr_aaloadI dX2_leftOver_17 (ls_1 hA) (by omega) (by decide) (ls_R (by omega)) ?_
  refine gr_bipush (v := nI 13) dX2_leftOver_18 (by decide) ?_
  refine gr_ialoadF dX2_leftOver_20 (ls_r hA (by omega)) (by omega) (by decide) ?_
  refine gr_callS dX2_leftOver_21 (c_negative l E d _ (C i 13)) ysX3_negative ⟨ml_X2_49, sm_X3_negative⟩ rfl rfl (Nat.le_of_ble_eq_true rfl) ⟨(Nat.le_refl _), (Nat.le_refl _)⟩ ⟨(Nat.le_refl _), (Nat.le_refl _)⟩ (fun r0 h1 hp9 => ?_)
  obtain ⟨e1, rfl⟩ := hp9
  subst h1
  refine gr_istore_n dX2_leftOver_24 (by decide) rfl ?_
  refine gr_iconst (v := nI 0) dX2_leftOver_25 rfl ?_
  refine gr_istore dX2_leftOver_26 (by decide) rfl ?_
  refine gr_lv (show _ = [some (.ref (A 0)), some (.ref b), some (.int (nI i)), some (.int (nI (-(C i 13) + zs 0 (fun k => C i k * q k)).val)), some (.int (nI 0))] by rw [show -(C i 13) + zs 0 (fun k => C i k * q k) = -(C i 13) by show _ + 0 = _; grind]; rfl) ?_
  exact c_lo_loop l E d h A hA C u pv t b q hbb i hi 13 0 (by omega)

/-- the numbers of the particular answer, the first k of them *)-/
def ptI (C : Nat → Nat → zp) (pv : Nat → Option Nat) (q : Nat → zp) (k : Nat) : Nat → zp := fun j => if j < k then (match pv j with | some i => C i 13 | none => 0) else q j
theorem ptI_up {C : Nat → Nat → zp} {pv : Nat → Option Nat} {q : Nat → zp} {k : Nat} {x : zp} (h : x = match pv k with | some i => C i 13 | none => 0) : va_up (ptI C pv q k) k x = ptI C pv q (k + 1) := by
  funext j; unfold va_up ptI
  by_cases e : j = k
  · subst e; rw [if_pos rfl, if_pos (by omega), h]
  · by_cases h2 : j < k
    · rw [if_neg e, if_pos h2, if_pos (by omega)]
    · rw [if_neg e, if_neg h2, if_neg (by omega)]
theorem ptI_0 (C : Nat → Nat → zp) (pv : Nat → Option Nat) (q : Nat → zp) : ptI C pv q 0 = q := by
  funext j; unfold ptI; rw [if_neg (by omega)]

set_option maxHeartbeats 4000000 in
set_option maxRecDepth 100000 in
theorem c_cp_loop (l : Launch) (E : ga_E) (d : Nat) (h : ga_H) (A : Nat → Nat) (hA : ga_inj A 24) (C : Nat → Nat → zp) (u : Nat → Bool) (pv : Nat → Option Nat) (t : Nat → zp) (b : Nat) (hbA : ∀ k, k < 24 → b ≠ A k) (q : Nat → zp) (hpv : ∀ j i, j < 13 → pv j = some i → i < 19) (hu : ∀ i, i < 19 → u i = true ∨ C i 13 = 0) : ∀ (g k : Nat) (x3 : Option Value), k + g = 13 → ga_G l E mX2_copyParticularTo (ga_Rm d 0 0) (ga_Z E (fun r0 h' => (∃ i, i < 19 ∧ u i = false ∧ C i 13 ≠ 0) ∧ h' = lsH E h A C u pv t ∧ r0 = some (.int (nI 0)) ∨ (∀ i, i < 19 → u i = true ∨ C i 13 = 0) ∧ h' = lsH E (ga_up h b (ga_f E 13 (ptI C pv q 13))) A C u pv t ∧ r0 = some (.int (nI 1))) 0 0) 39 [some (.ref (A 0)), some (.ref b), some (.int (nI k)), x3] [] (lsH E (ga_up h b (ga_f E 13 (ptI C pv q k))) A C u pv t) 0 0 := by
  intro g
  induction g with
  | zero =>
    intro k x3 hk
    refine gr_iload_n dX2_copyParticularTo_39 rfl (gr_bipush (v := nI 13) dX2_copyParticularTo_40 (by decide) ?_)
    refine gr_icmpgeN 84 dX2_copyParticularTo_42 (by decide) (by omega) (by decide) (fun _ => ?_) (fun z => absurd z (by omega))
    refine gr_iconst (v := nI 1) dX2_copyParticularTo_84 rfl ?_
    exact gr_zreturn dX2_copyParticularTo_85 rfl (by decide) (Nat.le_refl _) (Nat.le_refl _) (Or.inr ⟨hu, by rw [show k = 13 by omega], rfl⟩)
  | succ g ih =>
    intro k x3 hk
    refine gr_iload_n dX2_copyParticularTo_39 rfl (gr_bipush (v := nI 13) dX2_copyParticularTo_40 (by decide) ?_)
    refine gr_icmpgeN 84 dX2_copyParticularTo_42 (by decide) (by omega) (by decide) (fun z => absurd z (by omega)) (fun _ => ?_)
    refine gr_iload_n dX2_copyParticularTo_45 rfl ?_
    refine gr_aload_n dX2_copyParticularTo_46 rfl ?_
    refine gr_alen_i dX2_copyParticularTo_47 ((ga_ov_out hbA).trans ga_up_eq) ?_
    refine gr_icmpgeN 84 dX2_copyParticularTo_48 (by decide) (by omega) (by decide) (fun z => absurd z (by omega)) (fun _ => ?_)
    refine gr_aload_n dX2_copyParticularTo_51 rfl ?_
    refine gr_getf dX2_copyParticularTo_52 cls_X2 2 (by decide) fl_X2_20 (ls_0 hA) rfl ?_
    refine gr_iload_n dX2_copyParticularTo_55 rfl ?_
    refine gr_iaload dX2_copyParticularTo_56 (ls_22 hA) (by omega) (by decide) ?_
    refine gr_istore_n dX2_copyParticularTo_57 (by decide) rfl ?_
    refine gr_aload_n dX2_copyParticularTo_58 rfl ?_
    refine gr_iload_n dX2_copyParticularTo_59 rfl ?_
    refine gr_iload_n dX2_copyParticularTo_60 rfl ?_
    rcases hk : pv k with _ | i
    · refine gr_iflt 76 dX2_copyParticularTo_61 (by decide) (fun _ => ?_) (fun z => absurd (by decide) z)
      refine gr_iconst (v := nI (0 : zp).val) dX2_copyParticularTo_76 rfl ?_
      refine gr_iastoreF dX2_copyParticularTo_77 ((ga_ov_out hbA).trans ga_up_eq) (by omega) (by decide) ?_
      rw [show ga_up (lsH E (ga_up h b (ga_f E 13 (ptI C pv q k))) A C u pv t) b _ = lsH E (ga_up (ga_up h b (ga_f E 13 (ptI C pv q k))) b _) A C u pv t from ga_ov_base hbA, ga_up_up, ptI_up (by rw [hk])]
      refine gr_iinc (v := nI (_ + 1)) dX2_copyParticularTo_78 rfl (nI_1 _) (by decide) rfl ?_
      refine gr_goto 39 dX2_copyParticularTo_81 (by decide) ?_
      exact ih (k + 1) _ (by omega)
    · have hi := hpv k i (by omega) hk
      refine gr_ifltN dX2_copyParticularTo_61 76 (by decide) (by show i < 2 ^ 31; omega) ?_
      refine gr_aload_n dX2_copyParticularTo_64 rfl (gr_getf dX2_copyParticularTo_65 cls_X2 0 (by decide) fl_X2_11 (ls_0 hA) rfl (gr_iload_n dX2_copyParticularTo_68 rfl ?_))
      refine gr_aaloadI dX2_copyParticularTo_69 (ls_1 hA) hi (by decide) (ls_R hi) (gr_bipush (v := nI 13) dX2_copyParticularTo_70 (by decide) (gr_ialoadF dX2_copyParticularTo_72 (ls_r hA hi) (by decide) (by decide) (gr_goto 77 dX2_copyParticularTo_73 (by decide) ?_)))
      refine gr_iastoreF dX2_copyParticularTo_77 ((ga_ov_out hbA).trans ga_up_eq) (by omega) (by decide) ?_
      rw [show ga_up (lsH E (ga_up h b (ga_f E 13 (ptI C pv q k))) A C u pv t) b _ = lsH E (ga_up (ga_up h b (ga_f E 13 (ptI C pv q k))) b _) A C u pv t from ga_ov_base hbA, ga_up_up, ptI_up (by rw [hk])]
      refine gr_iinc (v := nI (_ + 1)) dX2_copyParticularTo_78 rfl (nI_1 _) (by decide) rfl ?_
      refine gr_goto 39 dX2_copyParticularTo_81 (by decide) ?_
      exact ih (k + 1) _ (by omega)

set_option maxHeartbeats 4000000 in
set_option maxRecDepth 100000 in
theorem c_cp_scan (l : Launch) (E : ga_E) (d : Nat) (h : ga_H) (A : Nat → Nat) (hA : ga_inj A 24) (C : Nat → Nat → zp) (u : Nat → Bool) (pv : Nat → Option Nat) (t : Nat → zp) (b : Nat) (hbA : ∀ k, k < 24 → b ≠ A k) (q : Nat → zp) (hpv : ∀ j i, j < 13 → pv j = some i → i < 19) (hb : h b = some (ga_f E 13 q)) : ∀ (g i : Nat), i + g = 19 → (∀ j, j < i → u j = true ∨ C j 13 = 0) → ga_G l E mX2_copyParticularTo (ga_Rm d 0 0) (ga_Z E (fun r0 h' => (∃ i, i < 19 ∧ u i = false ∧ C i 13 ≠ 0) ∧ h' = lsH E h A C u pv t ∧ r0 = some (.int (nI 0)) ∨ (∀ i, i < 19 → u i = true ∨ C i 13 = 0) ∧ h' = lsH E (ga_up h b (ga_f E 13 (ptI C pv q 13))) A C u pv t ∧ r0 = some (.int (nI 1))) 0 0) 2 [some (.ref (A 0)), some (.ref b), some (.int (nI i)), none] [] (lsH E h A C u pv t) 0 0 := by
  intro g
  induction g with
  | zero =>
    intro i hi hlt
    refine gr_iload_n dX2_copyParticularTo_2 rfl (gr_bipush (v := nI 19) dX2_copyParticularTo_3 (by decide) ?_)
    refine gr_icmpgeN 37 dX2_copyParticularTo_5 (by decide) (by omega) (by decide) (fun _ => ?_) (fun z => absurd z (by omega))
    refine gr_iconst (v := nI 0) dX2_copyParticularTo_37 rfl (gr_istore_n dX2_copyParticularTo_38 (by decide) rfl ?_)
    refine gr_h (show lsH E h A C u pv t = lsH E (ga_up h b (ga_f E 13 (ptI C pv q 0))) A C u pv t by rw [ptI_0, ga_up_self hb]) ?_
    exact c_cp_loop l E d h A hA C u pv t b hbA q hpv (fun j hj => hlt j (by omega)) 13 0 _ (by omega)
  | succ g ih =>
    intro i hi hlt
    refine gr_iload_n dX2_copyParticularTo_2 rfl (gr_bipush (v := nI 19) dX2_copyParticularTo_3 (by decide) ?_)
    refine gr_icmpgeN 37 dX2_copyParticularTo_5 (by decide) (by omega) (by decide) (fun z => absurd z (by omega)) (fun _ => ?_)
    refine gr_aload_n dX2_copyParticularTo_8 rfl ?_
    refine gr_getf dX2_copyParticularTo_9 cls_X2 1 (by decide) fl_X2_16 (ls_0 hA) rfl ?_
    refine gr_iload_n dX2_copyParticularTo_12 rfl ?_
    refine gr_zaload dX2_copyParticularTo_13 (ls_21 hA) (by omega) (by decide) ?_
    refine gr_ifne 31 dX2_copyParticularTo_14 (by decide) (fun c_14 => ?_) (fun c_14 => ?_)
    · refine gr_iinc (v := nI (_ + 1)) dX2_copyParticularTo_31 rfl (nI_1 _) (by decide) rfl ?_
      refine gr_goto 2 dX2_copyParticularTo_34 (by decide) ?_
      refine ih (i + 1) (by omega) (fun j hj => ?_)
      by_cases e : j = i
      · subst e
        first
          | exact Or.inr (Fin.ext c_26)
          | exact Or.inl (by cases e : u j with
              | true => rfl
              | false => rw [e] at c_14; exact absurd rfl c_14)
      · exact hlt j (by omega)
    · refine gr_aload_n dX2_copyParticularTo_17 rfl ?_
      refine gr_getf dX2_copyParticularTo_18 cls_X2 0 (by decide) fl_X2_11 (ls_0 hA) rfl ?_
      refine gr_iload_n dX2_copyParticularTo_21 rfl ?_
      refine gr_aaloadI dX2_copyParticularTo_22 (ls_1 hA) (by omega) (by decide) (ls_R (by omega)) ?_
      refine gr_bipush (v := nI 13) dX2_copyParticularTo_23 (by decide) ?_
      refine gr_ialoadF dX2_copyParticularTo_25 (ls_r hA (by omega)) (by omega) (by decide) ?_
      refine gr_ifeqN 31 dX2_copyParticularTo_26 (by decide) (by have := zl (C i 13); omega) (fun c_26 => ?_) (fun c_26 => ?_)
      · refine gr_iinc (v := nI (_ + 1)) dX2_copyParticularTo_31 rfl (nI_1 _) (by decide) rfl ?_
        refine gr_goto 2 dX2_copyParticularTo_34 (by decide) ?_
        refine ih (i + 1) (by omega) (fun j hj => ?_)
        by_cases e : j = i
        · subst e
          first
            | exact Or.inr (Fin.ext c_26)
            | exact Or.inl (by cases e : u j with
                | true => rfl
                | false => rw [e] at c_14; exact absurd rfl c_14)
        · exact hlt j (by omega)
      · refine gr_iconst (v := nI 0) dX2_copyParticularTo_29 rfl ?_
        exact gr_zreturn dX2_copyParticularTo_30 rfl (by decide) (Nat.le_refl _) (Nat.le_refl _) (Or.inl ⟨⟨i, by omega, by cases e : u i with
          | false => rfl
          | true => rw [e] at c_14; exact absurd c_14 (by decide), fun z => c_26 (by rw [z]; rfl)⟩, rfl, rfl⟩)

set_option maxHeartbeats 4000000 in
set_option maxRecDepth 100000 in
theorem c_copyParticularTo (l : Launch) (E : ga_E) (d : Nat) (h : ga_H) (A : Nat → Nat) (hA : ga_inj A 24) (C : Nat → Nat → zp) (u : Nat → Bool) (pv : Nat → Option Nat) (t : Nat → zp) (b : Nat) (hbA : ∀ k, k < 24 → b ≠ A k) (q : Nat → zp) (hpv : ∀ j i, j < 13 → pv j = some i → i < 19) (hb : h b = some (ga_f E 13 q)) : ga_Ok l E d mX2_copyParticularTo [.ref (A 0), .ref b] (lsH E h A C u pv t) 0 0 (fun r0 h' => (∃ i, i < 19 ∧ u i = false ∧ C i 13 ≠ 0) ∧ h' = lsH E h A C u pv t ∧ r0 = some (.int (nI 0)) ∨ (∀ i, i < 19 → u i = true ∨ C i 13 = 0) ∧ h' = lsH E (ga_up h b (ga_f E 13 (ptI C pv q 13))) A C u pv t ∧ r0 = some (.int (nI 1))) := by
  refine ga_Ok.of 2 _ (by decide) rfl (Nat.le_of_ble_eq_true rfl) rfl ?_
  refine gr_iconst (v := nI 0) dX2_copyParticularTo_0 rfl (gr_istore_n dX2_copyParticularTo_1 (by decide) rfl ?_)
  exact c_cp_scan l E d h A hA C u pv t b hbA q hpv hb 19 0 (by omega) (fun j hj => absurd hj (by omega))
end
section
theorem zz_look : (1 : Nat) + 1 = 2 := rfl
end
