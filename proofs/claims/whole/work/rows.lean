section
-- ===== PART A: goes FIRST, ahead of the names: the tables' words, and 'selects' of the private methods out of them =====
/-- a private method of a class that the tables say can be made, by its rows of tables_1 -/
def lw_okq (q : MethodName × Nat) : Prop := (q.1.cls ≠ "java/lang/invoke/MethodHandle" ∧ q.1.cls ≠ "java/lang/invoke/VarHandle") ∧ Cond.instantiable q.1.cls q.2 ∈ tables_1 ∧ Cond.privateMethod q.1 ∈ tables_1 ∧ Cond.instanceMethod q.1 ∈ tables_1
theorem lw_p0 : lw_okq (⟨"StackJudge$Ways", "reach", "(LStackJudge$Program;II)V"⟩, 3) := ⟨⟨by decide +kernel, by decide +kernel⟩, List.mem_of_getElem? (i := 44) (by decide +kernel), List.mem_of_getElem? (i := 147) (by decide +kernel), List.mem_of_getElem? (i := 148) (by decide +kernel)⟩
theorem lw_p1 : lw_okq (⟨"StackJudge$Ways", "isReached", "(II)Z"⟩, 3) := ⟨⟨by decide +kernel, by decide +kernel⟩, List.mem_of_getElem? (i := 44) (by decide +kernel), List.mem_of_getElem? (i := 155) (by decide +kernel), List.mem_of_getElem? (i := 156) (by decide +kernel)⟩
theorem lw_p2 : lw_okq (⟨"StackJudge$Ways", "goOn", "(LStackJudge$Program;II)V"⟩, 3) := ⟨⟨by decide +kernel, by decide +kernel⟩, List.mem_of_getElem? (i := 44) (by decide +kernel), List.mem_of_getElem? (i := 163) (by decide +kernel), List.mem_of_getElem? (i := 164) (by decide +kernel)⟩
theorem lw_p3 : lw_okq (⟨"StackJudge$Program", "limitOfN", "(I)I"⟩, 5) := ⟨⟨by decide +kernel, by decide +kernel⟩, List.mem_of_getElem? (i := 18) (by decide +kernel), List.mem_of_getElem? (i := 180) (by decide +kernel), List.mem_of_getElem? (i := 181) (by decide +kernel)⟩
theorem lw_p4 : lw_okq (⟨"StackJudge$Ways", "isWrong", "(LStackJudge$Program;I)Z"⟩, 3) := ⟨⟨by decide +kernel, by decide +kernel⟩, List.mem_of_getElem? (i := 44) (by decide +kernel), List.mem_of_getElem? (i := 216) (by decide +kernel), List.mem_of_getElem? (i := 217) (by decide +kernel)⟩
theorem lw_p5 : lw_okq (⟨"StackJudge$Machine", "begin", "(III)V"⟩, 10) := ⟨⟨by decide +kernel, by decide +kernel⟩, List.mem_of_getElem? (i := 61) (by decide +kernel), List.mem_of_getElem? (i := 242) (by decide +kernel), List.mem_of_getElem? (i := 243) (by decide +kernel)⟩
theorem lw_p6 : lw_okq (⟨"StackJudge$Machine", "doOne", "(III)I"⟩, 10) := ⟨⟨by decide +kernel, by decide +kernel⟩, List.mem_of_getElem? (i := 61) (by decide +kernel), List.mem_of_getElem? (i := 250) (by decide +kernel), List.mem_of_getElem? (i := 251) (by decide +kernel)⟩
theorem lw_p7 : lw_okq (⟨"StackJudge$Machine", "pop", "()I"⟩, 10) := ⟨⟨by decide +kernel, by decide +kernel⟩, List.mem_of_getElem? (i := 61) (by decide +kernel), List.mem_of_getElem? (i := 254) (by decide +kernel), List.mem_of_getElem? (i := 255) (by decide +kernel)⟩
theorem lw_p8 : lw_okq (⟨"StackJudge$Machine", "emit", "()I"⟩, 10) := ⟨⟨by decide +kernel, by decide +kernel⟩, List.mem_of_getElem? (i := 61) (by decide +kernel), List.mem_of_getElem? (i := 259) (by decide +kernel), List.mem_of_getElem? (i := 260) (by decide +kernel)⟩
theorem lw_p9 : lw_okq (⟨"StackJudge$Machine", "move", "(II)V"⟩, 10) := ⟨⟨by decide +kernel, by decide +kernel⟩, List.mem_of_getElem? (i := 61) (by decide +kernel), List.mem_of_getElem? (i := 263) (by decide +kernel), List.mem_of_getElem? (i := 264) (by decide +kernel)⟩
theorem lw_p10 : lw_okq (⟨"StackJudge$Machine", "push", "(I)V"⟩, 10) := ⟨⟨by decide +kernel, by decide +kernel⟩, List.mem_of_getElem? (i := 61) (by decide +kernel), List.mem_of_getElem? (i := 267) (by decide +kernel), List.mem_of_getElem? (i := 268) (by decide +kernel)⟩
theorem lw_p11 : lw_okq (⟨"StackJudgeModel", "fill", "()V"⟩, 13) := ⟨⟨by decide +kernel, by decide +kernel⟩, List.mem_of_getElem? (i := 294) (by decide +kernel), List.mem_of_getElem? (i := 357) (by decide +kernel), List.mem_of_getElem? (i := 358) (by decide +kernel)⟩
theorem lw_p12 : lw_okq (⟨"StackJudgeModel", "isBad", "(I)Z"⟩, 13) := ⟨⟨by decide +kernel, by decide +kernel⟩, List.mem_of_getElem? (i := 294) (by decide +kernel), List.mem_of_getElem? (i := 361) (by decide +kernel), List.mem_of_getElem? (i := 362) (by decide +kernel)⟩
theorem lw_p13 : lw_okq (⟨"StackJudgeModel", "goOn", "(II)V"⟩, 13) := ⟨⟨by decide +kernel, by decide +kernel⟩, List.mem_of_getElem? (i := 294) (by decide +kernel), List.mem_of_getElem? (i := 365) (by decide +kernel), List.mem_of_getElem? (i := 366) (by decide +kernel)⟩
theorem lw_p14 : lw_okq (⟨"StackJudgeModel", "needs", "(I)I"⟩, 13) := ⟨⟨by decide +kernel, by decide +kernel⟩, List.mem_of_getElem? (i := 294) (by decide +kernel), List.mem_of_getElem? (i := 372) (by decide +kernel), List.mem_of_getElem? (i := 373) (by decide +kernel)⟩
theorem lw_p15 : lw_okq (⟨"StackJudgeModel", "reach", "(II)V"⟩, 13) := ⟨⟨by decide +kernel, by decide +kernel⟩, List.mem_of_getElem? (i := 294) (by decide +kernel), List.mem_of_getElem? (i := 376) (by decide +kernel), List.mem_of_getElem? (i := 377) (by decide +kernel)⟩
def lw_privs_1 : List (MethodName × Nat) := [(⟨"StackJudge$Ways", "reach", "(LStackJudge$Program;II)V"⟩, 3), (⟨"StackJudge$Ways", "isReached", "(II)Z"⟩, 3), (⟨"StackJudge$Ways", "goOn", "(LStackJudge$Program;II)V"⟩, 3), (⟨"StackJudge$Program", "limitOfN", "(I)I"⟩, 5), (⟨"StackJudge$Ways", "isWrong", "(LStackJudge$Program;I)Z"⟩, 3), (⟨"StackJudge$Machine", "begin", "(III)V"⟩, 10), (⟨"StackJudge$Machine", "doOne", "(III)I"⟩, 10), (⟨"StackJudge$Machine", "pop", "()I"⟩, 10), (⟨"StackJudge$Machine", "emit", "()I"⟩, 10), (⟨"StackJudge$Machine", "move", "(II)V"⟩, 10), (⟨"StackJudge$Machine", "push", "(I)V"⟩, 10), (⟨"StackJudgeModel", "fill", "()V"⟩, 13), (⟨"StackJudgeModel", "isBad", "(I)Z"⟩, 13), (⟨"StackJudgeModel", "goOn", "(II)V"⟩, 13), (⟨"StackJudgeModel", "needs", "(I)I"⟩, 13), (⟨"StackJudgeModel", "reach", "(II)V"⟩, 13)]
theorem lw_r1 : ∀ q ∈ lw_privs_1, lw_okq q := List.forall_mem_cons.mpr ⟨lw_p0, List.forall_mem_cons.mpr ⟨lw_p1, List.forall_mem_cons.mpr ⟨lw_p2, List.forall_mem_cons.mpr ⟨lw_p3, List.forall_mem_cons.mpr ⟨lw_p4, List.forall_mem_cons.mpr ⟨lw_p5, List.forall_mem_cons.mpr ⟨lw_p6, List.forall_mem_cons.mpr ⟨lw_p7, List.forall_mem_cons.mpr ⟨lw_p8, List.forall_mem_cons.mpr ⟨lw_p9, List.forall_mem_cons.mpr ⟨lw_p10, List.forall_mem_cons.mpr ⟨lw_p11, List.forall_mem_cons.mpr ⟨lw_p12, List.forall_mem_cons.mpr ⟨lw_p13, List.forall_mem_cons.mpr ⟨lw_p14, List.forall_mem_cons.mpr ⟨lw_p15, fun _ h => absurd h List.not_mem_nil⟩⟩⟩⟩⟩⟩⟩⟩⟩⟩⟩⟩⟩⟩⟩⟩
theorem lw_p16 : lw_okq (⟨"StackJudgeModel", "done", "(III)I"⟩, 13) := ⟨⟨by decide +kernel, by decide +kernel⟩, List.mem_of_getElem? (i := 294) (by decide +kernel), List.mem_of_getElem? (i := 389) (by decide +kernel), List.mem_of_getElem? (i := 390) (by decide +kernel)⟩
def lw_privs_2 : List (MethodName × Nat) := [(⟨"StackJudgeModel", "done", "(III)I"⟩, 13)]
theorem lw_r2 : ∀ q ∈ lw_privs_2, lw_okq q := List.forall_mem_cons.mpr ⟨lw_p16, fun _ h => absurd h List.not_mem_nil⟩
def lw_privs : List (MethodName × Nat) := lw_privs_1 ++ (lw_privs_2)
def lw_tbl : List Cond := k2_sels lw_privs ++ tables_1
theorem lw_privs_ok : ∀ q ∈ lw_privs, lw_okq q := by
  show ∀ q ∈ lw_privs_1 ++ (lw_privs_2), lw_okq q
  exact List.forall_mem_append.mpr ⟨lw_r1, lw_r2⟩
end
section
/-! words that stay: of the tables' words those that every later state keeps; what methods take as given -/
def isG (w : Cond) : Bool := (w.onTables && w.keeps) || (match w with | .arrayClass _ => true | _ => false)
theorem isG_good {w : Cond} (h : isG w = true) : (w.onTables && w.keeps) = true ∨ ∃ ty, w = .arrayClass ty := by
  unfold isG at h
  rw [Bool.or_eq_true] at h
  rcases h with h | h
  · exact Or.inl h
  · cases w <;> first | exact Or.inr ⟨_, rfl⟩ | exact absurd h Bool.false_ne_true
def gW : List Cond := lw_tbl.filter isG
theorem gW_mem (i : Nat) {w : Cond} (h : lw_tbl[i]? = some w) (hg : isG w = true) : w ∈ gW := List.mem_filter.mpr ⟨List.mem_of_getElem? h, hg⟩
theorem gW_good {w : Cond} (h : w ∈ gW) : (w.onTables && w.keeps) = true ∨ ∃ ty, w = .arrayClass ty := isG_good (List.mem_filter.mp h).2
theorem gd {c : Cond} (h : c ∈ gW) : GoodIn gW (c :: gW) := by
  intro w hw
  rcases List.mem_cons.mp hw with rfl | h1
  · exact ⟨h, gW_good h⟩
  · exact ⟨h1, gW_good h1⟩
theorem gd4 {a b c d x : Cond} (ha : a ∈ gW) (hb : b ∈ gW) (hc : c ∈ gW) (hd : d ∈ gW) (hx : x ∈ gW) : GoodIn gW (([a, b, c, d] : List Cond) ++ (x :: gW)) := by
  intro w hw
  have hm : w ∈ gW := by
    rcases List.mem_append.mp hw with h | h
    · simp only [List.mem_cons, List.not_mem_nil, or_false] at h
      rcases h with rfl | rfl | rfl | rfl <;> assumption
    · rcases List.mem_cons.mp h with rfl | h1 <;> assumption
  exact ⟨hm, gW_good hm⟩
theorem gd3 {a b c x : Cond} (ha : a ∈ gW) (hb : b ∈ gW) (hc : c ∈ gW) (hx : x ∈ gW) : GoodIn gW (([a, b, c] : List Cond) ++ (x :: gW)) := by
  intro w hw
  have hm : w ∈ gW := by
    rcases List.mem_append.mp hw with h | h
    · simp only [List.mem_cons, List.not_mem_nil, or_false] at h
      rcases h with rfl | rfl | rfl <;> assumption
    · rcases List.mem_cons.mp h with rfl | h1 <;> assumption
  exact ⟨hm, gW_good hm⟩
def R_SJ : String := "StackJudge"
def R_Program : String := "StackJudge$Program"
def R_Ways : String := "StackJudge$Ways"
def R_Machine : String := "StackJudge$Machine"
def R_Op : String := "StackJudge$Op"
def R_Model : String := "StackJudgeModel"
def R_Law : String := "StackJudgeLaw"
def R_Arrays : String := "java/util/Arrays"
def R_Integer : String := "java/lang/Integer"
abbrev b_SJ_init : ByteArray := prog_1_method_1_code
def y_SJ_init : MethodName := ⟨R_SJ, "<init>", "(I)V"⟩
abbrev b_SJ_code : ByteArray := prog_1_method_2_code
def y_SJ_code : MethodName := ⟨R_SJ, "code", "(II)I"⟩
abbrev b_SJ_clear : ByteArray := prog_1_method_3_code
def y_SJ_clear : MethodName := ⟨R_SJ, "clear", "()I"⟩
abbrev b_SJ_drop : ByteArray := prog_1_method_4_code
def y_SJ_drop : MethodName := ⟨R_SJ, "drop", "()I"⟩
abbrev b_SJ_check : ByteArray := prog_1_method_5_code
def y_SJ_check : MethodName := ⟨R_SJ, "check", "()I"⟩
abbrev b_SJ_heights : ByteArray := prog_1_method_6_code
def y_SJ_heights : MethodName := ⟨R_SJ, "heights", "(I)I"⟩
abbrev b_SJ_call : ByteArray := prog_1_method_7_code
def y_SJ_call : MethodName := ⟨R_SJ, "call", "(III)I"⟩
abbrev b_SJ_result : ByteArray := prog_1_method_8_code
def y_SJ_result : MethodName := ⟨R_SJ, "result", "()I"⟩
abbrev b_SJ_steps : ByteArray := prog_1_method_9_code
def y_SJ_steps : MethodName := ⟨R_SJ, "steps", "()I"⟩
abbrev b_SJ_pairs : ByteArray := prog_1_method_10_code
def y_SJ_pairs : MethodName := ⟨R_SJ, "pairs", "()I"⟩
abbrev b_SJ_pair : ByteArray := prog_1_method_11_code
def y_SJ_pair : MethodName := ⟨R_SJ, "pair", "(II)J"⟩
abbrev b_SJ_read : ByteArray := prog_1_method_12_code
def y_SJ_read : MethodName := ⟨R_SJ, "read", "([II)I"⟩
abbrev b_SJ_write : ByteArray := prog_1_method_13_code
def y_SJ_write : MethodName := ⟨R_SJ, "write", "([III)V"⟩
abbrev b_Model_init : ByteArray := prog_8_method_1_code
def y_Model_init : MethodName := ⟨R_Model, "<init>", "(I)V"⟩
abbrev b_Model_code : ByteArray := prog_8_method_2_code
def y_Model_code : MethodName := ⟨R_Model, "code", "(II)I"⟩
abbrev b_Model_clear : ByteArray := prog_8_method_3_code
def y_Model_clear : MethodName := ⟨R_Model, "clear", "()I"⟩
abbrev b_Model_drop : ByteArray := prog_8_method_4_code
def y_Model_drop : MethodName := ⟨R_Model, "drop", "()I"⟩
abbrev b_Model_isBad : ByteArray := prog_8_method_5_code
def y_Model_isBad : MethodName := ⟨R_Model, "isBad", "(I)Z"⟩
abbrev b_Model_needs : ByteArray := prog_8_method_6_code
def y_Model_needs : MethodName := ⟨R_Model, "needs", "(I)I"⟩
abbrev b_Model_grows : ByteArray := prog_8_method_7_code
def y_Model_grows : MethodName := ⟨R_Model, "grows", "(I)I"⟩
abbrev b_Model_reach : ByteArray := prog_8_method_8_code
def y_Model_reach : MethodName := ⟨R_Model, "reach", "(II)V"⟩
abbrev b_Model_goOn : ByteArray := prog_8_method_9_code
def y_Model_goOn : MethodName := ⟨R_Model, "goOn", "(II)V"⟩
abbrev b_Model_fill : ByteArray := prog_8_method_10_code
def y_Model_fill : MethodName := ⟨R_Model, "fill", "()V"⟩
abbrev b_Model_heights : ByteArray := prog_8_method_11_code
def y_Model_heights : MethodName := ⟨R_Model, "heights", "(I)I"⟩
abbrev b_Model_check : ByteArray := prog_8_method_12_code
def y_Model_check : MethodName := ⟨R_Model, "check", "()I"⟩
abbrev b_Model_reckoned : ByteArray := prog_8_method_13_code
def y_Model_reckoned : MethodName := ⟨R_Model, "reckoned", "(III)I"⟩
abbrev b_Model_done : ByteArray := prog_8_method_14_code
def y_Model_done : MethodName := ⟨R_Model, "done", "(III)I"⟩
abbrev b_Model_call : ByteArray := prog_8_method_15_code
def y_Model_call : MethodName := ⟨R_Model, "call", "(III)I"⟩
abbrev b_Model_result : ByteArray := prog_8_method_16_code
def y_Model_result : MethodName := ⟨R_Model, "result", "()I"⟩
abbrev b_Model_steps : ByteArray := prog_8_method_17_code
def y_Model_steps : MethodName := ⟨R_Model, "steps", "()I"⟩
abbrev b_Model_pairs : ByteArray := prog_8_method_18_code
def y_Model_pairs : MethodName := ⟨R_Model, "pairs", "()I"⟩
abbrev b_Model_pair : ByteArray := prog_8_method_19_code
def y_Model_pair : MethodName := ⟨R_Model, "pair", "(II)J"⟩
abbrev b_Machine_init : ByteArray := prog_3_method_1_code
def y_Machine_init : MethodName := ⟨R_Machine, "<init>", "()V"⟩
abbrev b_Machine_run : ByteArray := prog_3_method_2_code
def y_Machine_run : MethodName := ⟨R_Machine, "run", "(LStackJudge$Program;III)I"⟩
abbrev b_Machine_begin : ByteArray := prog_3_method_3_code
def y_Machine_begin : MethodName := ⟨R_Machine, "begin", "(III)V"⟩
abbrev b_Machine_doOne : ByteArray := prog_3_method_4_code
def y_Machine_doOne : MethodName := ⟨R_Machine, "doOne", "(III)I"⟩
abbrev b_Machine_move : ByteArray := prog_3_method_5_code
def y_Machine_move : MethodName := ⟨R_Machine, "move", "(II)V"⟩
abbrev b_Machine_combine : ByteArray := prog_3_method_6_code
def y_Machine_combine : MethodName := ⟨R_Machine, "combine", "(III)I"⟩
abbrev b_Machine_emit : ByteArray := prog_3_method_7_code
def y_Machine_emit : MethodName := ⟨R_Machine, "emit", "()I"⟩
abbrev b_Machine_push : ByteArray := prog_3_method_8_code
def y_Machine_push : MethodName := ⟨R_Machine, "push", "(I)V"⟩
abbrev b_Machine_pop : ByteArray := prog_3_method_9_code
def y_Machine_pop : MethodName := ⟨R_Machine, "pop", "()I"⟩
abbrev b_Op_isOf : ByteArray := prog_4_method_2_code
def y_Op_isOf : MethodName := ⟨R_Op, "isOf", "(II)Z"⟩
abbrev b_Op_needs : ByteArray := prog_4_method_3_code
def y_Op_needs : MethodName := ⟨R_Op, "needs", "(II)I"⟩
abbrev b_Op_growth : ByteArray := prog_4_method_4_code
def y_Op_growth : MethodName := ⟨R_Op, "growth", "(I)I"⟩
abbrev b_Op_jumps : ByteArray := prog_4_method_5_code
def y_Op_jumps : MethodName := ⟨R_Op, "jumps", "(I)Z"⟩
abbrev b_Op_hasNext : ByteArray := prog_4_method_6_code
def y_Op_hasNext : MethodName := ⟨R_Op, "hasNext", "(I)Z"⟩
abbrev b_Program_init : ByteArray := prog_5_method_1_code
def y_Program_init : MethodName := ⟨R_Program, "<init>", "(I)V"⟩
abbrev b_Program_append : ByteArray := prog_5_method_2_code
def y_Program_append : MethodName := ⟨R_Program, "append", "(II)Z"⟩
abbrev b_Program_keepFirst : ByteArray := prog_5_method_3_code
def y_Program_keepFirst : MethodName := ⟨R_Program, "keepFirst", "(I)V"⟩
abbrev b_Program_has : ByteArray := prog_5_method_4_code
def y_Program_has : MethodName := ⟨R_Program, "has", "(I)Z"⟩
abbrev b_Program_opAt : ByteArray := prog_5_method_5_code
def y_Program_opAt : MethodName := ⟨R_Program, "opAt", "(I)I"⟩
abbrev b_Program_nAt : ByteArray := prog_5_method_6_code
def y_Program_nAt : MethodName := ⟨R_Program, "nAt", "(I)I"⟩
abbrev b_Program_isWellFormed : ByteArray := prog_5_method_7_code
def y_Program_isWellFormed : MethodName := ⟨R_Program, "isWellFormed", "(I)Z"⟩
abbrev b_Program_limitOfN : ByteArray := prog_5_method_8_code
def y_Program_limitOfN : MethodName := ⟨R_Program, "limitOfN", "(I)I"⟩
abbrev b_Program_canBeDone : ByteArray := prog_5_method_9_code
def y_Program_canBeDone : MethodName := ⟨R_Program, "canBeDone", "(II)Z"⟩
abbrev b_Ways_init : ByteArray := prog_6_method_1_code
def y_Ways_init : MethodName := ⟨R_Ways, "<init>", "()V"⟩
abbrev b_Ways_follow : ByteArray := prog_6_method_2_code
def y_Ways_follow : MethodName := ⟨R_Ways, "follow", "(LStackJudge$Program;)V"⟩
abbrev b_Ways_goOn : ByteArray := prog_6_method_3_code
def y_Ways_goOn : MethodName := ⟨R_Ways, "goOn", "(LStackJudge$Program;II)V"⟩
abbrev b_Ways_reach : ByteArray := prog_6_method_4_code
def y_Ways_reach : MethodName := ⟨R_Ways, "reach", "(LStackJudge$Program;II)V"⟩
abbrev b_Ways_isReached : ByteArray := prog_6_method_5_code
def y_Ways_isReached : MethodName := ⟨R_Ways, "isReached", "(II)Z"⟩
abbrev b_Ways_firstWrong : ByteArray := prog_6_method_6_code
def y_Ways_firstWrong : MethodName := ⟨R_Ways, "firstWrong", "(LStackJudge$Program;)I"⟩
abbrev b_Ways_isWrong : ByteArray := prog_6_method_7_code
def y_Ways_isWrong : MethodName := ⟨R_Ways, "isWrong", "(LStackJudge$Program;I)Z"⟩
abbrev b_Law_cell : ByteArray := method_2_code
def y_Law_cell : MethodName := ⟨R_Law, "cell", "([II)I"⟩
abbrev b_Integer_bitCount : ByteArray := prog_9_method_49_code
def y_Integer_bitCount : MethodName := ⟨R_Integer, "bitCount", "(I)I"⟩
abbrev b_Arrays_fill : ByteArray := prog_10_method_103_code
def y_Arrays_fill : MethodName := ⟨R_Arrays, "fill", "([II)V"⟩
def F_SJ : u_T := fun k => match k with
  | 0 => (R_SJ, "program", "LStackJudge$Program;", true)
  | 1 => (R_SJ, "ways", "LStackJudge$Ways;", true)
  | _ => (R_SJ, "machine", "LStackJudge$Machine;", true)
def t_SJ : Nat → FieldType := fun k => match k with
  | 0 => .object "StackJudge$Program"
  | 1 => .object "StackJudge$Ways"
  | _ => .object "StackJudge$Machine"
theorem n_SJ : ∀ a, a < 3 → ∀ b, b < 3 → a ≠ b → (F_SJ a).2.1 ≠ (F_SJ b).2.1 := by decide +kernel
theorem t_SJ_ok : ∀ k, k < 3 → parseFieldDescriptor (F_SJ k).2.2.1 = some (t_SJ k) := by decide +kernel
def F_Program : u_T := fun k => match k with
  | 0 => (R_Program, "kind", "I", true)
  | 1 => (R_Program, "size", "I", false)
  | 2 => (R_Program, "argumentCount", "I", true)
  | 3 => (R_Program, "ops", "[I", true)
  | _ => (R_Program, "ns", "[I", true)
def t_Program : Nat → FieldType := fun k => match k with
  | 0 => .int
  | 1 => .int
  | 2 => .int
  | 3 => (.array .int)
  | _ => (.array .int)
theorem n_Program : ∀ a, a < 5 → ∀ b, b < 5 → a ≠ b → (F_Program a).2.1 ≠ (F_Program b).2.1 := by decide +kernel
theorem t_Program_ok : ∀ k, k < 5 → parseFieldDescriptor (F_Program k).2.2.1 = some (t_Program k) := by decide +kernel
def F_Ways : u_T := fun k => match k with
  | 0 => (R_Ways, "reached", "[I", true)
  | 1 => (R_Ways, "waiting", "[I", true)
  | _ => (R_Ways, "waitingCount", "I", false)
def t_Ways : Nat → FieldType := fun k => match k with
  | 0 => (.array .int)
  | 1 => (.array .int)
  | _ => .int
theorem n_Ways : ∀ a, a < 3 → ∀ b, b < 3 → a ≠ b → (F_Ways a).2.1 ≠ (F_Ways b).2.1 := by decide +kernel
theorem t_Ways_ok : ∀ k, k < 3 → parseFieldDescriptor (F_Ways k).2.2.1 = some (t_Ways k) := by decide +kernel
def F_Machine : u_T := fun k => match k with
  | 0 => (R_Machine, "latestResult", "I", false)
  | 1 => (R_Machine, "stepCount", "I", false)
  | 2 => (R_Machine, "pairCount", "I", false)
  | 3 => (R_Machine, "keys", "[I", true)
  | 4 => (R_Machine, "values", "[I", true)
  | 5 => (R_Machine, "arguments", "[I", true)
  | 6 => (R_Machine, "locals", "[I", true)
  | 7 => (R_Machine, "stack", "[I", true)
  | 8 => (R_Machine, "height", "I", false)
  | _ => (R_Machine, "at", "I", false)
def t_Machine : Nat → FieldType := fun k => match k with
  | 0 => .int
  | 1 => .int
  | 2 => .int
  | 3 => (.array .int)
  | 4 => (.array .int)
  | 5 => (.array .int)
  | 6 => (.array .int)
  | 7 => (.array .int)
  | 8 => .int
  | _ => .int
theorem n_Machine : ∀ a, a < 10 → ∀ b, b < 10 → a ≠ b → (F_Machine a).2.1 ≠ (F_Machine b).2.1 := by decide +kernel
theorem t_Machine_ok : ∀ k, k < 10 → parseFieldDescriptor (F_Machine k).2.2.1 = some (t_Machine k) := by decide +kernel
def F_Model : u_T := fun k => match k with
  | 0 => (R_Model, "kind", "I", true)
  | 1 => (R_Model, "op", "[I", true)
  | 2 => (R_Model, "number", "[I", true)
  | 3 => (R_Model, "length", "I", false)
  | 4 => (R_Model, "reached", "[I", true)
  | 5 => (R_Model, "wrong", "[Z", true)
  | 6 => (R_Model, "stack", "[I", true)
  | 7 => (R_Model, "local", "[I", true)
  | 8 => (R_Model, "key", "[I", true)
  | 9 => (R_Model, "value", "[I", true)
  | 10 => (R_Model, "emitted", "I", false)
  | 11 => (R_Model, "steps", "I", false)
  | _ => (R_Model, "result", "I", false)
def t_Model : Nat → FieldType := fun k => match k with
  | 0 => .int
  | 1 => (.array .int)
  | 2 => (.array .int)
  | 3 => .int
  | 4 => (.array .int)
  | 5 => (.array .boolean)
  | 6 => (.array .int)
  | 7 => (.array .int)
  | 8 => (.array .int)
  | 9 => (.array .int)
  | 10 => .int
  | 11 => .int
  | _ => .int
theorem n_Model : ∀ a, a < 13 → ∀ b, b < 13 → a ≠ b → (F_Model a).2.1 ≠ (F_Model b).2.1 := by decide +kernel
theorem t_Model_ok : ∀ k, k < 13 → parseFieldDescriptor (F_Model k).2.2.1 = some (t_Model k) := by decide +kernel
abbrev classes : List vw_C := [(R_SJ, F_SJ, 3), (R_Program, F_Program, 5), (R_Ways, F_Ways, 3), (R_Machine, F_Machine, 10), (R_Model, F_Model, 13)]
theorem k_0 : Cond.selects R_Ways y_Ways_reach y_Ways_reach ∈ gW := gW_mem 0 (by decide +kernel) rfl
theorem k_1 : Cond.selects R_Ways y_Ways_isReached y_Ways_isReached ∈ gW := gW_mem 1 (by decide +kernel) rfl
theorem k_2 : Cond.selects R_Ways y_Ways_goOn y_Ways_goOn ∈ gW := gW_mem 2 (by decide +kernel) rfl
theorem k_3 : Cond.selects R_Program y_Program_limitOfN y_Program_limitOfN ∈ gW := gW_mem 3 (by decide +kernel) rfl
theorem k_4 : Cond.selects R_Ways y_Ways_isWrong y_Ways_isWrong ∈ gW := gW_mem 4 (by decide +kernel) rfl
theorem k_5 : Cond.selects R_Machine y_Machine_begin y_Machine_begin ∈ gW := gW_mem 5 (by decide +kernel) rfl
theorem k_6 : Cond.selects R_Machine y_Machine_doOne y_Machine_doOne ∈ gW := gW_mem 6 (by decide +kernel) rfl
theorem k_7 : Cond.selects R_Machine y_Machine_pop y_Machine_pop ∈ gW := gW_mem 7 (by decide +kernel) rfl
theorem k_8 : Cond.selects R_Machine y_Machine_emit y_Machine_emit ∈ gW := gW_mem 8 (by decide +kernel) rfl
theorem k_9 : Cond.selects R_Machine y_Machine_move y_Machine_move ∈ gW := gW_mem 9 (by decide +kernel) rfl
theorem k_10 : Cond.selects R_Machine y_Machine_push y_Machine_push ∈ gW := gW_mem 10 (by decide +kernel) rfl
theorem k_18 : (Jvm.Cond.initialized "StackJudge") ∈ gW := gW_mem 18 (by decide +kernel) rfl
theorem k_19 : (Jvm.Cond.initialized "StackJudge$Program") ∈ gW := gW_mem 19 (by decide +kernel) rfl
theorem k_20 : (Jvm.Cond.initialized "StackJudge$Ways") ∈ gW := gW_mem 20 (by decide +kernel) rfl
theorem k_21 : (Jvm.Cond.initialized "StackJudge$Machine") ∈ gW := gW_mem 21 (by decide +kernel) rfl
theorem k_23 : (Jvm.Cond.initialized "java/util/Arrays") ∈ gW := gW_mem 23 (by decide +kernel) rfl
theorem k_24 : (Jvm.Cond.initialized "StackJudge$Op") ∈ gW := gW_mem 24 (by decide +kernel) rfl
theorem k_25 : (Jvm.Cond.initialized "java/lang/Integer") ∈ gW := gW_mem 25 (by decide +kernel) rfl
theorem k_40 : (Jvm.Cond.fieldLink "StackJudge$Program" (18 : Nat) "StackJudge$Program" "kind" "I") ∈ gW := gW_mem 40 (by decide +kernel) rfl
theorem k_41 : (Jvm.Cond.fieldLink "StackJudge$Machine" (47 : Nat) "StackJudge$Program" "kind" "I") ∈ gW := gW_mem 41 (by decide +kernel) rfl
theorem k_42 : (Jvm.Cond.fieldLink "StackJudge$Program" (27 : Nat) "StackJudge$Program" "size" "I") ∈ gW := gW_mem 42 (by decide +kernel) rfl
theorem k_43 : (Jvm.Cond.fieldLink "StackJudge" (36 : Nat) "StackJudge$Program" "size" "I") ∈ gW := gW_mem 43 (by decide +kernel) rfl
theorem k_44 : (Jvm.Cond.fieldLink "StackJudge$Ways" (74 : Nat) "StackJudge$Program" "size" "I") ∈ gW := gW_mem 44 (by decide +kernel) rfl
theorem k_45 : (Jvm.Cond.fieldLink "StackJudge$Program" (24 : Nat) "StackJudge$Program" "argumentCount" "I") ∈ gW := gW_mem 45 (by decide +kernel) rfl
theorem k_46 : (Jvm.Cond.fieldLink "StackJudge$Program" (9 : Nat) "StackJudge$Program" "ops" "[I") ∈ gW := gW_mem 46 (by decide +kernel) rfl
theorem k_47 : (Jvm.Cond.fieldLink "StackJudge$Program" (15 : Nat) "StackJudge$Program" "ns" "[I") ∈ gW := gW_mem 47 (by decide +kernel) rfl
theorem k_48 : (Jvm.Cond.laysFinal "StackJudge$Program" "StackJudge$Program" "kind" "I") ∈ gW := gW_mem 48 (by decide +kernel) rfl
theorem k_50 : (Jvm.Cond.lays "StackJudge$Program" "StackJudge$Program" "size" "I") ∈ gW := gW_mem 50 (by decide +kernel) rfl
theorem k_52 : (Jvm.Cond.laysFinal "StackJudge$Program" "StackJudge$Program" "argumentCount" "I") ∈ gW := gW_mem 52 (by decide +kernel) rfl
theorem k_54 : (Jvm.Cond.laysFinal "StackJudge$Program" "StackJudge$Program" "ops" "[I") ∈ gW := gW_mem 54 (by decide +kernel) rfl
theorem k_56 : (Jvm.Cond.laysFinal "StackJudge$Program" "StackJudge$Program" "ns" "[I") ∈ gW := gW_mem 56 (by decide +kernel) rfl
theorem k_66 : (Jvm.Cond.fieldLink "StackJudge$Ways" (9 : Nat) "StackJudge$Ways" "reached" "[I") ∈ gW := gW_mem 66 (by decide +kernel) rfl
theorem k_67 : (Jvm.Cond.fieldLink "StackJudge" (55 : Nat) "StackJudge$Ways" "reached" "[I") ∈ gW := gW_mem 67 (by decide +kernel) rfl
theorem k_68 : (Jvm.Cond.fieldLink "StackJudge$Ways" (15 : Nat) "StackJudge$Ways" "waiting" "[I") ∈ gW := gW_mem 68 (by decide +kernel) rfl
theorem k_69 : (Jvm.Cond.fieldLink "StackJudge$Ways" (24 : Nat) "StackJudge$Ways" "waitingCount" "I") ∈ gW := gW_mem 69 (by decide +kernel) rfl
theorem k_70 : (Jvm.Cond.laysFinal "StackJudge$Ways" "StackJudge$Ways" "reached" "[I") ∈ gW := gW_mem 70 (by decide +kernel) rfl
theorem k_72 : (Jvm.Cond.laysFinal "StackJudge$Ways" "StackJudge$Ways" "waiting" "[I") ∈ gW := gW_mem 72 (by decide +kernel) rfl
theorem k_74 : (Jvm.Cond.lays "StackJudge$Ways" "StackJudge$Ways" "waitingCount" "I") ∈ gW := gW_mem 74 (by decide +kernel) rfl
theorem k_83 : (Jvm.Cond.fieldLink "StackJudge$Machine" (70 : Nat) "StackJudge$Machine" "latestResult" "I") ∈ gW := gW_mem 83 (by decide +kernel) rfl
theorem k_84 : (Jvm.Cond.fieldLink "StackJudge" (71 : Nat) "StackJudge$Machine" "latestResult" "I") ∈ gW := gW_mem 84 (by decide +kernel) rfl
theorem k_85 : (Jvm.Cond.fieldLink "StackJudge$Machine" (31 : Nat) "StackJudge$Machine" "stepCount" "I") ∈ gW := gW_mem 85 (by decide +kernel) rfl
theorem k_86 : (Jvm.Cond.fieldLink "StackJudge" (74 : Nat) "StackJudge$Machine" "stepCount" "I") ∈ gW := gW_mem 86 (by decide +kernel) rfl
theorem k_87 : (Jvm.Cond.fieldLink "StackJudge$Machine" (54 : Nat) "StackJudge$Machine" "pairCount" "I") ∈ gW := gW_mem 87 (by decide +kernel) rfl
theorem k_88 : (Jvm.Cond.fieldLink "StackJudge" (77 : Nat) "StackJudge$Machine" "pairCount" "I") ∈ gW := gW_mem 88 (by decide +kernel) rfl
theorem k_89 : (Jvm.Cond.fieldLink "StackJudge$Machine" (9 : Nat) "StackJudge$Machine" "keys" "[I") ∈ gW := gW_mem 89 (by decide +kernel) rfl
theorem k_90 : (Jvm.Cond.fieldLink "StackJudge" (82 : Nat) "StackJudge$Machine" "keys" "[I") ∈ gW := gW_mem 90 (by decide +kernel) rfl
theorem k_91 : (Jvm.Cond.fieldLink "StackJudge$Machine" (15 : Nat) "StackJudge$Machine" "values" "[I") ∈ gW := gW_mem 91 (by decide +kernel) rfl
theorem k_92 : (Jvm.Cond.fieldLink "StackJudge" (85 : Nat) "StackJudge$Machine" "values" "[I") ∈ gW := gW_mem 92 (by decide +kernel) rfl
theorem k_93 : (Jvm.Cond.fieldLink "StackJudge$Machine" (18 : Nat) "StackJudge$Machine" "arguments" "[I") ∈ gW := gW_mem 93 (by decide +kernel) rfl
theorem k_94 : (Jvm.Cond.fieldLink "StackJudge$Machine" (21 : Nat) "StackJudge$Machine" "locals" "[I") ∈ gW := gW_mem 94 (by decide +kernel) rfl
theorem k_95 : (Jvm.Cond.fieldLink "StackJudge$Machine" (24 : Nat) "StackJudge$Machine" "stack" "[I") ∈ gW := gW_mem 95 (by decide +kernel) rfl
theorem k_96 : (Jvm.Cond.fieldLink "StackJudge$Machine" (67 : Nat) "StackJudge$Machine" "height" "I") ∈ gW := gW_mem 96 (by decide +kernel) rfl
theorem k_97 : (Jvm.Cond.fieldLink "StackJudge$Machine" (35 : Nat) "StackJudge$Machine" "at" "I") ∈ gW := gW_mem 97 (by decide +kernel) rfl
theorem k_98 : (Jvm.Cond.lays "StackJudge$Machine" "StackJudge$Machine" "latestResult" "I") ∈ gW := gW_mem 98 (by decide +kernel) rfl
theorem k_100 : (Jvm.Cond.lays "StackJudge$Machine" "StackJudge$Machine" "stepCount" "I") ∈ gW := gW_mem 100 (by decide +kernel) rfl
theorem k_102 : (Jvm.Cond.lays "StackJudge$Machine" "StackJudge$Machine" "pairCount" "I") ∈ gW := gW_mem 102 (by decide +kernel) rfl
theorem k_104 : (Jvm.Cond.laysFinal "StackJudge$Machine" "StackJudge$Machine" "keys" "[I") ∈ gW := gW_mem 104 (by decide +kernel) rfl
theorem k_106 : (Jvm.Cond.laysFinal "StackJudge$Machine" "StackJudge$Machine" "values" "[I") ∈ gW := gW_mem 106 (by decide +kernel) rfl
theorem k_108 : (Jvm.Cond.laysFinal "StackJudge$Machine" "StackJudge$Machine" "arguments" "[I") ∈ gW := gW_mem 108 (by decide +kernel) rfl
theorem k_110 : (Jvm.Cond.laysFinal "StackJudge$Machine" "StackJudge$Machine" "locals" "[I") ∈ gW := gW_mem 110 (by decide +kernel) rfl
theorem k_112 : (Jvm.Cond.laysFinal "StackJudge$Machine" "StackJudge$Machine" "stack" "[I") ∈ gW := gW_mem 112 (by decide +kernel) rfl
theorem k_114 : (Jvm.Cond.lays "StackJudge$Machine" "StackJudge$Machine" "height" "I") ∈ gW := gW_mem 114 (by decide +kernel) rfl
theorem k_116 : (Jvm.Cond.lays "StackJudge$Machine" "StackJudge$Machine" "at" "I") ∈ gW := gW_mem 116 (by decide +kernel) rfl
theorem k_119 : (Jvm.Cond.fieldLink "StackJudge" (12 : Nat) "StackJudge" "program" "LStackJudge$Program;") ∈ gW := gW_mem 119 (by decide +kernel) rfl
theorem k_120 : (Jvm.Cond.fieldLink "StackJudge" (21 : Nat) "StackJudge" "ways" "LStackJudge$Ways;") ∈ gW := gW_mem 120 (by decide +kernel) rfl
theorem k_121 : (Jvm.Cond.fieldLink "StackJudge" (28 : Nat) "StackJudge" "machine" "LStackJudge$Machine;") ∈ gW := gW_mem 121 (by decide +kernel) rfl
theorem k_122 : (Jvm.Cond.laysFinal "StackJudge" "StackJudge" "program" "LStackJudge$Program;") ∈ gW := gW_mem 122 (by decide +kernel) rfl
theorem k_124 : (Jvm.Cond.laysFinal "StackJudge" "StackJudge" "ways" "LStackJudge$Ways;") ∈ gW := gW_mem 124 (by decide +kernel) rfl
theorem k_126 : (Jvm.Cond.laysFinal "StackJudge" "StackJudge" "machine" "LStackJudge$Machine;") ∈ gW := gW_mem 126 (by decide +kernel) rfl
theorem k_133 : (Jvm.Cond.methodLink "StackJudge" (32 : Nat) ({ cls := "StackJudge$Program", name := "append", desc := "(II)Z" } : Jvm.MethodName)) ∈ gW := gW_mem 133 (by decide +kernel) rfl
theorem k_134 : (Jvm.Cond.instanceMethod ({ cls := "StackJudge$Program", name := "append", desc := "(II)Z" } : Jvm.MethodName)) ∈ gW := gW_mem 134 (by decide +kernel) rfl
theorem k_135 : (Jvm.Cond.selects "StackJudge$Program" ({ cls := "StackJudge$Program", name := "append", desc := "(II)Z" } : Jvm.MethodName) ({ cls := "StackJudge$Program", name := "append", desc := "(II)Z" } : Jvm.MethodName)) ∈ gW := gW_mem 135 (by decide +kernel) rfl
theorem k_136 : (Jvm.Cond.code ({ cls := "StackJudge$Program", name := "append", desc := "(II)Z" } : Jvm.MethodName) prog_5_method_2_code (3 : Nat) (Option.some Jvm.ClassFile.FieldType.boolean)) ∈ gW := gW_mem 136 (by decide +kernel) rfl
theorem k_138 : (Jvm.Cond.static ({ cls := "StackJudge", name := "write", desc := "([III)V" } : Jvm.MethodName)) ∈ gW := gW_mem 138 (by decide +kernel) rfl
theorem k_139 : (Jvm.Cond.code ({ cls := "StackJudge", name := "write", desc := "([III)V" } : Jvm.MethodName) prog_1_method_13_code (3 : Nat) (Option.none : Option Jvm.ClassFile.FieldType)) ∈ gW := gW_mem 139 (by decide +kernel) rfl
theorem k_144 : (Jvm.Cond.methodLink "StackJudge" (40 : Nat) ({ cls := "StackJudge$Program", name := "keepFirst", desc := "(I)V" } : Jvm.MethodName)) ∈ gW := gW_mem 144 (by decide +kernel) rfl
theorem k_145 : (Jvm.Cond.instanceMethod ({ cls := "StackJudge$Program", name := "keepFirst", desc := "(I)V" } : Jvm.MethodName)) ∈ gW := gW_mem 145 (by decide +kernel) rfl
theorem k_146 : (Jvm.Cond.selects "StackJudge$Program" ({ cls := "StackJudge$Program", name := "keepFirst", desc := "(I)V" } : Jvm.MethodName) ({ cls := "StackJudge$Program", name := "keepFirst", desc := "(I)V" } : Jvm.MethodName)) ∈ gW := gW_mem 146 (by decide +kernel) rfl
theorem k_147 : (Jvm.Cond.code ({ cls := "StackJudge$Program", name := "keepFirst", desc := "(I)V" } : Jvm.MethodName) prog_5_method_3_code (2 : Nat) (Option.none : Option Jvm.ClassFile.FieldType)) ∈ gW := gW_mem 147 (by decide +kernel) rfl
theorem k_153 : (Jvm.Cond.instanceMethod ({ cls := "StackJudge", name := "check", desc := "()I" } : Jvm.MethodName)) ∈ gW := gW_mem 153 (by decide +kernel) rfl
theorem k_154 : (Jvm.Cond.selects "StackJudge" ({ cls := "StackJudge", name := "check", desc := "()I" } : Jvm.MethodName) ({ cls := "StackJudge", name := "check", desc := "()I" } : Jvm.MethodName)) ∈ gW := gW_mem 154 (by decide +kernel) rfl
theorem k_155 : (Jvm.Cond.code ({ cls := "StackJudge", name := "check", desc := "()I" } : Jvm.MethodName) prog_1_method_5_code (1 : Nat) (Option.some Jvm.ClassFile.FieldType.int)) ∈ gW := gW_mem 155 (by decide +kernel) rfl
theorem k_156 : (Jvm.Cond.methodLink "StackJudge" (43 : Nat) ({ cls := "StackJudge$Ways", name := "follow", desc := "(LStackJudge$Program;)V" } : Jvm.MethodName)) ∈ gW := gW_mem 156 (by decide +kernel) rfl
theorem k_157 : (Jvm.Cond.instanceMethod ({ cls := "StackJudge$Ways", name := "follow", desc := "(LStackJudge$Program;)V" } : Jvm.MethodName)) ∈ gW := gW_mem 157 (by decide +kernel) rfl
theorem k_158 : (Jvm.Cond.selects "StackJudge$Ways" ({ cls := "StackJudge$Ways", name := "follow", desc := "(LStackJudge$Program;)V" } : Jvm.MethodName) ({ cls := "StackJudge$Ways", name := "follow", desc := "(LStackJudge$Program;)V" } : Jvm.MethodName)) ∈ gW := gW_mem 158 (by decide +kernel) rfl
theorem k_159 : (Jvm.Cond.code ({ cls := "StackJudge$Ways", name := "follow", desc := "(LStackJudge$Program;)V" } : Jvm.MethodName) prog_6_method_2_code (4 : Nat) (Option.none : Option Jvm.ClassFile.FieldType)) ∈ gW := gW_mem 159 (by decide +kernel) rfl
theorem k_160 : (Jvm.Cond.methodLink "StackJudge$Ways" (18 : Nat) ({ cls := "java/util/Arrays", name := "fill", desc := "([II)V" } : Jvm.MethodName)) ∈ gW := gW_mem 160 (by decide +kernel) rfl
theorem k_161 : (Jvm.Cond.static ({ cls := "java/util/Arrays", name := "fill", desc := "([II)V" } : Jvm.MethodName)) ∈ gW := gW_mem 161 (by decide +kernel) rfl
theorem k_162 : (Jvm.Cond.code ({ cls := "java/util/Arrays", name := "fill", desc := "([II)V" } : Jvm.MethodName) prog_10_method_103_code (4 : Nat) (Option.none : Option Jvm.ClassFile.FieldType)) ∈ gW := gW_mem 162 (by decide +kernel) rfl
theorem k_163 : (Jvm.Cond.methodLink "StackJudge$Ways" (28 : Nat) ({ cls := "StackJudge$Ways", name := "reach", desc := "(LStackJudge$Program;II)V" } : Jvm.MethodName)) ∈ gW := gW_mem 163 (by decide +kernel) rfl
theorem k_165 : (Jvm.Cond.instanceMethod ({ cls := "StackJudge$Ways", name := "reach", desc := "(LStackJudge$Program;II)V" } : Jvm.MethodName)) ∈ gW := gW_mem 165 (by decide +kernel) rfl
theorem k_166 : (Jvm.Cond.code ({ cls := "StackJudge$Ways", name := "reach", desc := "(LStackJudge$Program;II)V" } : Jvm.MethodName) prog_6_method_4_code (4 : Nat) (Option.none : Option Jvm.ClassFile.FieldType)) ∈ gW := gW_mem 166 (by decide +kernel) rfl
theorem k_167 : (Jvm.Cond.methodLink "StackJudge$Ways" (64 : Nat) ({ cls := "StackJudge$Program", name := "has", desc := "(I)Z" } : Jvm.MethodName)) ∈ gW := gW_mem 167 (by decide +kernel) rfl
theorem k_168 : (Jvm.Cond.instanceMethod ({ cls := "StackJudge$Program", name := "has", desc := "(I)Z" } : Jvm.MethodName)) ∈ gW := gW_mem 168 (by decide +kernel) rfl
theorem k_169 : (Jvm.Cond.selects "StackJudge$Program" ({ cls := "StackJudge$Program", name := "has", desc := "(I)Z" } : Jvm.MethodName) ({ cls := "StackJudge$Program", name := "has", desc := "(I)Z" } : Jvm.MethodName)) ∈ gW := gW_mem 169 (by decide +kernel) rfl
theorem k_170 : (Jvm.Cond.code ({ cls := "StackJudge$Program", name := "has", desc := "(I)Z" } : Jvm.MethodName) prog_5_method_4_code (2 : Nat) (Option.some Jvm.ClassFile.FieldType.boolean)) ∈ gW := gW_mem 170 (by decide +kernel) rfl
theorem k_171 : (Jvm.Cond.methodLink "StackJudge$Ways" (67 : Nat) ({ cls := "StackJudge$Ways", name := "isReached", desc := "(II)Z" } : Jvm.MethodName)) ∈ gW := gW_mem 171 (by decide +kernel) rfl
theorem k_173 : (Jvm.Cond.instanceMethod ({ cls := "StackJudge$Ways", name := "isReached", desc := "(II)Z" } : Jvm.MethodName)) ∈ gW := gW_mem 173 (by decide +kernel) rfl
theorem k_174 : (Jvm.Cond.code ({ cls := "StackJudge$Ways", name := "isReached", desc := "(II)Z" } : Jvm.MethodName) prog_6_method_5_code (3 : Nat) (Option.some Jvm.ClassFile.FieldType.boolean)) ∈ gW := gW_mem 174 (by decide +kernel) rfl
theorem k_176 : (Jvm.Cond.static ({ cls := "StackJudge", name := "read", desc := "([II)I" } : Jvm.MethodName)) ∈ gW := gW_mem 176 (by decide +kernel) rfl
theorem k_177 : (Jvm.Cond.code ({ cls := "StackJudge", name := "read", desc := "([II)I" } : Jvm.MethodName) prog_1_method_12_code (2 : Nat) (Option.some Jvm.ClassFile.FieldType.int)) ∈ gW := gW_mem 177 (by decide +kernel) rfl
theorem k_179 : (Jvm.Cond.methodLink "StackJudge$Ways" (36 : Nat) ({ cls := "StackJudge$Ways", name := "goOn", desc := "(LStackJudge$Program;II)V" } : Jvm.MethodName)) ∈ gW := gW_mem 179 (by decide +kernel) rfl
theorem k_181 : (Jvm.Cond.instanceMethod ({ cls := "StackJudge$Ways", name := "goOn", desc := "(LStackJudge$Program;II)V" } : Jvm.MethodName)) ∈ gW := gW_mem 181 (by decide +kernel) rfl
theorem k_182 : (Jvm.Cond.code ({ cls := "StackJudge$Ways", name := "goOn", desc := "(LStackJudge$Program;II)V" } : Jvm.MethodName) prog_6_method_3_code (6 : Nat) (Option.none : Option Jvm.ClassFile.FieldType)) ∈ gW := gW_mem 182 (by decide +kernel) rfl
theorem k_183 : (Jvm.Cond.methodLink "StackJudge$Ways" (39 : Nat) ({ cls := "StackJudge$Program", name := "canBeDone", desc := "(II)Z" } : Jvm.MethodName)) ∈ gW := gW_mem 183 (by decide +kernel) rfl
theorem k_184 : (Jvm.Cond.instanceMethod ({ cls := "StackJudge$Program", name := "canBeDone", desc := "(II)Z" } : Jvm.MethodName)) ∈ gW := gW_mem 184 (by decide +kernel) rfl
theorem k_185 : (Jvm.Cond.selects "StackJudge$Program" ({ cls := "StackJudge$Program", name := "canBeDone", desc := "(II)Z" } : Jvm.MethodName) ({ cls := "StackJudge$Program", name := "canBeDone", desc := "(II)Z" } : Jvm.MethodName)) ∈ gW := gW_mem 185 (by decide +kernel) rfl
theorem k_186 : (Jvm.Cond.code ({ cls := "StackJudge$Program", name := "canBeDone", desc := "(II)Z" } : Jvm.MethodName) prog_5_method_9_code (4 : Nat) (Option.some Jvm.ClassFile.FieldType.boolean)) ∈ gW := gW_mem 186 (by decide +kernel) rfl
theorem k_187 : (Jvm.Cond.methodLink "StackJudge$Program" (48 : Nat) ({ cls := "StackJudge$Program", name := "opAt", desc := "(I)I" } : Jvm.MethodName)) ∈ gW := gW_mem 187 (by decide +kernel) rfl
theorem k_188 : (Jvm.Cond.instanceMethod ({ cls := "StackJudge$Program", name := "opAt", desc := "(I)I" } : Jvm.MethodName)) ∈ gW := gW_mem 188 (by decide +kernel) rfl
theorem k_189 : (Jvm.Cond.selects "StackJudge$Program" ({ cls := "StackJudge$Program", name := "opAt", desc := "(I)I" } : Jvm.MethodName) ({ cls := "StackJudge$Program", name := "opAt", desc := "(I)I" } : Jvm.MethodName)) ∈ gW := gW_mem 189 (by decide +kernel) rfl
theorem k_190 : (Jvm.Cond.code ({ cls := "StackJudge$Program", name := "opAt", desc := "(I)I" } : Jvm.MethodName) prog_5_method_5_code (2 : Nat) (Option.some Jvm.ClassFile.FieldType.int)) ∈ gW := gW_mem 190 (by decide +kernel) rfl
theorem k_192 : (Jvm.Cond.methodLink "StackJudge$Program" (51 : Nat) ({ cls := "StackJudge$Program", name := "isWellFormed", desc := "(I)Z" } : Jvm.MethodName)) ∈ gW := gW_mem 192 (by decide +kernel) rfl
theorem k_193 : (Jvm.Cond.instanceMethod ({ cls := "StackJudge$Program", name := "isWellFormed", desc := "(I)Z" } : Jvm.MethodName)) ∈ gW := gW_mem 193 (by decide +kernel) rfl
theorem k_194 : (Jvm.Cond.selects "StackJudge$Program" ({ cls := "StackJudge$Program", name := "isWellFormed", desc := "(I)Z" } : Jvm.MethodName) ({ cls := "StackJudge$Program", name := "isWellFormed", desc := "(I)Z" } : Jvm.MethodName)) ∈ gW := gW_mem 194 (by decide +kernel) rfl
theorem k_195 : (Jvm.Cond.code ({ cls := "StackJudge$Program", name := "isWellFormed", desc := "(I)Z" } : Jvm.MethodName) prog_5_method_7_code (5 : Nat) (Option.some Jvm.ClassFile.FieldType.boolean)) ∈ gW := gW_mem 195 (by decide +kernel) rfl
theorem k_196 : (Jvm.Cond.methodLink "StackJudge$Program" (38 : Nat) ({ cls := "StackJudge$Program", name := "limitOfN", desc := "(I)I" } : Jvm.MethodName)) ∈ gW := gW_mem 196 (by decide +kernel) rfl
theorem k_198 : (Jvm.Cond.instanceMethod ({ cls := "StackJudge$Program", name := "limitOfN", desc := "(I)I" } : Jvm.MethodName)) ∈ gW := gW_mem 198 (by decide +kernel) rfl
theorem k_199 : (Jvm.Cond.code ({ cls := "StackJudge$Program", name := "limitOfN", desc := "(I)I" } : Jvm.MethodName) prog_5_method_8_code (2 : Nat) (Option.some Jvm.ClassFile.FieldType.int)) ∈ gW := gW_mem 199 (by decide +kernel) rfl
theorem k_200 : (Jvm.Cond.methodLink "StackJudge$Program" (42 : Nat) ({ cls := "StackJudge$Op", name := "isOf", desc := "(II)Z" } : Jvm.MethodName)) ∈ gW := gW_mem 200 (by decide +kernel) rfl
theorem k_201 : (Jvm.Cond.static ({ cls := "StackJudge$Op", name := "isOf", desc := "(II)Z" } : Jvm.MethodName)) ∈ gW := gW_mem 201 (by decide +kernel) rfl
theorem k_202 : (Jvm.Cond.code ({ cls := "StackJudge$Op", name := "isOf", desc := "(II)Z" } : Jvm.MethodName) prog_4_method_2_code (2 : Nat) (Option.some Jvm.ClassFile.FieldType.boolean)) ∈ gW := gW_mem 202 (by decide +kernel) rfl
theorem k_203 : (Jvm.Cond.methodLink "StackJudge$Program" (55 : Nat) ({ cls := "StackJudge$Op", name := "hasNext", desc := "(I)Z" } : Jvm.MethodName)) ∈ gW := gW_mem 203 (by decide +kernel) rfl
theorem k_204 : (Jvm.Cond.static ({ cls := "StackJudge$Op", name := "hasNext", desc := "(I)Z" } : Jvm.MethodName)) ∈ gW := gW_mem 204 (by decide +kernel) rfl
theorem k_205 : (Jvm.Cond.code ({ cls := "StackJudge$Op", name := "hasNext", desc := "(I)Z" } : Jvm.MethodName) prog_4_method_6_code (1 : Nat) (Option.some Jvm.ClassFile.FieldType.boolean)) ∈ gW := gW_mem 205 (by decide +kernel) rfl
theorem k_206 : (Jvm.Cond.methodLink "StackJudge$Program" (58 : Nat) ({ cls := "StackJudge$Program", name := "has", desc := "(I)Z" } : Jvm.MethodName)) ∈ gW := gW_mem 206 (by decide +kernel) rfl
theorem k_207 : (Jvm.Cond.methodLink "StackJudge$Program" (61 : Nat) ({ cls := "StackJudge$Op", name := "needs", desc := "(II)I" } : Jvm.MethodName)) ∈ gW := gW_mem 207 (by decide +kernel) rfl
theorem k_208 : (Jvm.Cond.static ({ cls := "StackJudge$Op", name := "needs", desc := "(II)I" } : Jvm.MethodName)) ∈ gW := gW_mem 208 (by decide +kernel) rfl
theorem k_209 : (Jvm.Cond.code ({ cls := "StackJudge$Op", name := "needs", desc := "(II)I" } : Jvm.MethodName) prog_4_method_3_code (2 : Nat) (Option.some Jvm.ClassFile.FieldType.int)) ∈ gW := gW_mem 209 (by decide +kernel) rfl
theorem k_210 : (Jvm.Cond.fieldLink "StackJudge$Op" (11 : Nat) "StackJudge$Op" "NEEDS" "[I") ∈ gW := gW_mem 210 (by decide +kernel) rfl
theorem k_213 : (Jvm.Cond.methodLink "StackJudge$Program" (65 : Nat) ({ cls := "StackJudge$Op", name := "growth", desc := "(I)I" } : Jvm.MethodName)) ∈ gW := gW_mem 213 (by decide +kernel) rfl
theorem k_214 : (Jvm.Cond.static ({ cls := "StackJudge$Op", name := "growth", desc := "(I)I" } : Jvm.MethodName)) ∈ gW := gW_mem 214 (by decide +kernel) rfl
theorem k_215 : (Jvm.Cond.code ({ cls := "StackJudge$Op", name := "growth", desc := "(I)I" } : Jvm.MethodName) prog_4_method_4_code (1 : Nat) (Option.some Jvm.ClassFile.FieldType.int)) ∈ gW := gW_mem 215 (by decide +kernel) rfl
theorem k_216 : (Jvm.Cond.fieldLink "StackJudge$Op" (21 : Nat) "StackJudge$Op" "GROWTH" "[I") ∈ gW := gW_mem 216 (by decide +kernel) rfl
theorem k_218 : (Jvm.Cond.methodLink "StackJudge$Ways" (45 : Nat) ({ cls := "StackJudge$Program", name := "opAt", desc := "(I)I" } : Jvm.MethodName)) ∈ gW := gW_mem 218 (by decide +kernel) rfl
theorem k_219 : (Jvm.Cond.methodLink "StackJudge$Ways" (49 : Nat) ({ cls := "StackJudge$Op", name := "growth", desc := "(I)I" } : Jvm.MethodName)) ∈ gW := gW_mem 219 (by decide +kernel) rfl
theorem k_220 : (Jvm.Cond.methodLink "StackJudge$Ways" (54 : Nat) ({ cls := "StackJudge$Op", name := "hasNext", desc := "(I)Z" } : Jvm.MethodName)) ∈ gW := gW_mem 220 (by decide +kernel) rfl
theorem k_221 : (Jvm.Cond.methodLink "StackJudge$Ways" (58 : Nat) ({ cls := "StackJudge$Op", name := "jumps", desc := "(I)Z" } : Jvm.MethodName)) ∈ gW := gW_mem 221 (by decide +kernel) rfl
theorem k_222 : (Jvm.Cond.static ({ cls := "StackJudge$Op", name := "jumps", desc := "(I)Z" } : Jvm.MethodName)) ∈ gW := gW_mem 222 (by decide +kernel) rfl
theorem k_223 : (Jvm.Cond.code ({ cls := "StackJudge$Op", name := "jumps", desc := "(I)Z" } : Jvm.MethodName) prog_4_method_5_code (1 : Nat) (Option.some Jvm.ClassFile.FieldType.boolean)) ∈ gW := gW_mem 223 (by decide +kernel) rfl
theorem k_224 : (Jvm.Cond.methodLink "StackJudge$Ways" (61 : Nat) ({ cls := "StackJudge$Program", name := "nAt", desc := "(I)I" } : Jvm.MethodName)) ∈ gW := gW_mem 224 (by decide +kernel) rfl
theorem k_225 : (Jvm.Cond.instanceMethod ({ cls := "StackJudge$Program", name := "nAt", desc := "(I)I" } : Jvm.MethodName)) ∈ gW := gW_mem 225 (by decide +kernel) rfl
theorem k_226 : (Jvm.Cond.selects "StackJudge$Program" ({ cls := "StackJudge$Program", name := "nAt", desc := "(I)I" } : Jvm.MethodName) ({ cls := "StackJudge$Program", name := "nAt", desc := "(I)I" } : Jvm.MethodName)) ∈ gW := gW_mem 226 (by decide +kernel) rfl
theorem k_227 : (Jvm.Cond.code ({ cls := "StackJudge$Program", name := "nAt", desc := "(I)I" } : Jvm.MethodName) prog_5_method_6_code (2 : Nat) (Option.some Jvm.ClassFile.FieldType.int)) ∈ gW := gW_mem 227 (by decide +kernel) rfl
theorem k_228 : (Jvm.Cond.methodLink "StackJudge" (47 : Nat) ({ cls := "StackJudge$Ways", name := "firstWrong", desc := "(LStackJudge$Program;)I" } : Jvm.MethodName)) ∈ gW := gW_mem 228 (by decide +kernel) rfl
theorem k_229 : (Jvm.Cond.instanceMethod ({ cls := "StackJudge$Ways", name := "firstWrong", desc := "(LStackJudge$Program;)I" } : Jvm.MethodName)) ∈ gW := gW_mem 229 (by decide +kernel) rfl
theorem k_230 : (Jvm.Cond.selects "StackJudge$Ways" ({ cls := "StackJudge$Ways", name := "firstWrong", desc := "(LStackJudge$Program;)I" } : Jvm.MethodName) ({ cls := "StackJudge$Ways", name := "firstWrong", desc := "(LStackJudge$Program;)I" } : Jvm.MethodName)) ∈ gW := gW_mem 230 (by decide +kernel) rfl
theorem k_231 : (Jvm.Cond.code ({ cls := "StackJudge$Ways", name := "firstWrong", desc := "(LStackJudge$Program;)I" } : Jvm.MethodName) prog_6_method_6_code (3 : Nat) (Option.some Jvm.ClassFile.FieldType.int)) ∈ gW := gW_mem 231 (by decide +kernel) rfl
theorem k_232 : (Jvm.Cond.methodLink "StackJudge$Ways" (77 : Nat) ({ cls := "StackJudge$Ways", name := "isWrong", desc := "(LStackJudge$Program;I)Z" } : Jvm.MethodName)) ∈ gW := gW_mem 232 (by decide +kernel) rfl
theorem k_234 : (Jvm.Cond.instanceMethod ({ cls := "StackJudge$Ways", name := "isWrong", desc := "(LStackJudge$Program;I)Z" } : Jvm.MethodName)) ∈ gW := gW_mem 234 (by decide +kernel) rfl
theorem k_235 : (Jvm.Cond.code ({ cls := "StackJudge$Ways", name := "isWrong", desc := "(LStackJudge$Program;I)Z" } : Jvm.MethodName) prog_6_method_7_code (4 : Nat) (Option.some Jvm.ClassFile.FieldType.boolean)) ∈ gW := gW_mem 235 (by decide +kernel) rfl
theorem k_236 : (Jvm.Cond.methodLink "StackJudge$Ways" (81 : Nat) ({ cls := "StackJudge$Program", name := "isWellFormed", desc := "(I)Z" } : Jvm.MethodName)) ∈ gW := gW_mem 236 (by decide +kernel) rfl
theorem k_237 : (Jvm.Cond.methodLink "StackJudge$Ways" (84 : Nat) ({ cls := "java/lang/Integer", name := "bitCount", desc := "(I)I" } : Jvm.MethodName)) ∈ gW := gW_mem 237 (by decide +kernel) rfl
theorem k_238 : (Jvm.Cond.static ({ cls := "java/lang/Integer", name := "bitCount", desc := "(I)I" } : Jvm.MethodName)) ∈ gW := gW_mem 238 (by decide +kernel) rfl
theorem k_239 : (Jvm.Cond.code ({ cls := "java/lang/Integer", name := "bitCount", desc := "(I)I" } : Jvm.MethodName) prog_9_method_49_code (1 : Nat) (Option.some Jvm.ClassFile.FieldType.int)) ∈ gW := gW_mem 239 (by decide +kernel) rfl
theorem k_240 : (Jvm.Cond.constant "java/lang/Integer" (265 : Nat) (1431655765 : Int32)) ∈ gW := gW_mem 240 (by decide +kernel) rfl
theorem k_241 : (Jvm.Cond.constant "java/lang/Integer" (266 : Nat) (858993459 : Int32)) ∈ gW := gW_mem 241 (by decide +kernel) rfl
theorem k_242 : (Jvm.Cond.constant "java/lang/Integer" (267 : Nat) (252645135 : Int32)) ∈ gW := gW_mem 242 (by decide +kernel) rfl
theorem k_247 : (Jvm.Cond.methodLink "StackJudge" (51 : Nat) ({ cls := "StackJudge$Program", name := "has", desc := "(I)Z" } : Jvm.MethodName)) ∈ gW := gW_mem 247 (by decide +kernel) rfl
theorem k_248 : (Jvm.Cond.methodLink "StackJudge" (59 : Nat) ({ cls := "StackJudge", name := "read", desc := "([II)I" } : Jvm.MethodName)) ∈ gW := gW_mem 248 (by decide +kernel) rfl
theorem k_253 : (Jvm.Cond.methodLink "StackJudge" (63 : Nat) ({ cls := "StackJudge", name := "check", desc := "()I" } : Jvm.MethodName)) ∈ gW := gW_mem 253 (by decide +kernel) rfl
theorem k_254 : (Jvm.Cond.methodLink "StackJudge" (67 : Nat) ({ cls := "StackJudge$Machine", name := "run", desc := "(LStackJudge$Program;III)I" } : Jvm.MethodName)) ∈ gW := gW_mem 254 (by decide +kernel) rfl
theorem k_255 : (Jvm.Cond.instanceMethod ({ cls := "StackJudge$Machine", name := "run", desc := "(LStackJudge$Program;III)I" } : Jvm.MethodName)) ∈ gW := gW_mem 255 (by decide +kernel) rfl
theorem k_256 : (Jvm.Cond.selects "StackJudge$Machine" ({ cls := "StackJudge$Machine", name := "run", desc := "(LStackJudge$Program;III)I" } : Jvm.MethodName) ({ cls := "StackJudge$Machine", name := "run", desc := "(LStackJudge$Program;III)I" } : Jvm.MethodName)) ∈ gW := gW_mem 256 (by decide +kernel) rfl
theorem k_257 : (Jvm.Cond.code ({ cls := "StackJudge$Machine", name := "run", desc := "(LStackJudge$Program;III)I" } : Jvm.MethodName) prog_3_method_2_code (7 : Nat) (Option.some Jvm.ClassFile.FieldType.int)) ∈ gW := gW_mem 257 (by decide +kernel) rfl
theorem k_258 : (Jvm.Cond.methodLink "StackJudge$Machine" (27 : Nat) ({ cls := "StackJudge$Machine", name := "begin", desc := "(III)V" } : Jvm.MethodName)) ∈ gW := gW_mem 258 (by decide +kernel) rfl
theorem k_260 : (Jvm.Cond.instanceMethod ({ cls := "StackJudge$Machine", name := "begin", desc := "(III)V" } : Jvm.MethodName)) ∈ gW := gW_mem 260 (by decide +kernel) rfl
theorem k_261 : (Jvm.Cond.code ({ cls := "StackJudge$Machine", name := "begin", desc := "(III)V" } : Jvm.MethodName) prog_3_method_3_code (4 : Nat) (Option.none : Option Jvm.ClassFile.FieldType)) ∈ gW := gW_mem 261 (by decide +kernel) rfl
theorem k_263 : (Jvm.Cond.methodLink "StackJudge$Machine" (61 : Nat) ({ cls := "java/util/Arrays", name := "fill", desc := "([II)V" } : Jvm.MethodName)) ∈ gW := gW_mem 263 (by decide +kernel) rfl
theorem k_264 : (Jvm.Cond.methodLink "StackJudge$Machine" (38 : Nat) ({ cls := "StackJudge$Program", name := "opAt", desc := "(I)I" } : Jvm.MethodName)) ∈ gW := gW_mem 264 (by decide +kernel) rfl
theorem k_265 : (Jvm.Cond.methodLink "StackJudge$Machine" (44 : Nat) ({ cls := "StackJudge$Program", name := "nAt", desc := "(I)I" } : Jvm.MethodName)) ∈ gW := gW_mem 265 (by decide +kernel) rfl
theorem k_266 : (Jvm.Cond.methodLink "StackJudge$Machine" (50 : Nat) ({ cls := "StackJudge$Machine", name := "doOne", desc := "(III)I" } : Jvm.MethodName)) ∈ gW := gW_mem 266 (by decide +kernel) rfl
theorem k_268 : (Jvm.Cond.instanceMethod ({ cls := "StackJudge$Machine", name := "doOne", desc := "(III)I" } : Jvm.MethodName)) ∈ gW := gW_mem 268 (by decide +kernel) rfl
theorem k_269 : (Jvm.Cond.code ({ cls := "StackJudge$Machine", name := "doOne", desc := "(III)I" } : Jvm.MethodName) prog_3_method_4_code (4 : Nat) (Option.some Jvm.ClassFile.FieldType.int)) ∈ gW := gW_mem 269 (by decide +kernel) rfl
theorem k_270 : (Jvm.Cond.methodLink "StackJudge$Machine" (73 : Nat) ({ cls := "StackJudge$Machine", name := "pop", desc := "()I" } : Jvm.MethodName)) ∈ gW := gW_mem 270 (by decide +kernel) rfl
theorem k_272 : (Jvm.Cond.instanceMethod ({ cls := "StackJudge$Machine", name := "pop", desc := "()I" } : Jvm.MethodName)) ∈ gW := gW_mem 272 (by decide +kernel) rfl
theorem k_273 : (Jvm.Cond.code ({ cls := "StackJudge$Machine", name := "pop", desc := "()I" } : Jvm.MethodName) prog_3_method_9_code (1 : Nat) (Option.some Jvm.ClassFile.FieldType.int)) ∈ gW := gW_mem 273 (by decide +kernel) rfl
theorem k_275 : (Jvm.Cond.methodLink "StackJudge$Machine" (77 : Nat) ({ cls := "StackJudge$Machine", name := "emit", desc := "()I" } : Jvm.MethodName)) ∈ gW := gW_mem 275 (by decide +kernel) rfl
theorem k_277 : (Jvm.Cond.instanceMethod ({ cls := "StackJudge$Machine", name := "emit", desc := "()I" } : Jvm.MethodName)) ∈ gW := gW_mem 277 (by decide +kernel) rfl
theorem k_278 : (Jvm.Cond.code ({ cls := "StackJudge$Machine", name := "emit", desc := "()I" } : Jvm.MethodName) prog_3_method_7_code (1 : Nat) (Option.some Jvm.ClassFile.FieldType.int)) ∈ gW := gW_mem 278 (by decide +kernel) rfl
theorem k_279 : (Jvm.Cond.methodLink "StackJudge$Machine" (80 : Nat) ({ cls := "StackJudge$Machine", name := "move", desc := "(II)V" } : Jvm.MethodName)) ∈ gW := gW_mem 279 (by decide +kernel) rfl
theorem k_281 : (Jvm.Cond.instanceMethod ({ cls := "StackJudge$Machine", name := "move", desc := "(II)V" } : Jvm.MethodName)) ∈ gW := gW_mem 281 (by decide +kernel) rfl
theorem k_282 : (Jvm.Cond.code ({ cls := "StackJudge$Machine", name := "move", desc := "(II)V" } : Jvm.MethodName) prog_3_method_5_code (8 : Nat) (Option.none : Option Jvm.ClassFile.FieldType)) ∈ gW := gW_mem 282 (by decide +kernel) rfl
theorem k_283 : (Jvm.Cond.methodLink "StackJudge$Machine" (84 : Nat) ({ cls := "StackJudge$Machine", name := "push", desc := "(I)V" } : Jvm.MethodName)) ∈ gW := gW_mem 283 (by decide +kernel) rfl
theorem k_285 : (Jvm.Cond.instanceMethod ({ cls := "StackJudge$Machine", name := "push", desc := "(I)V" } : Jvm.MethodName)) ∈ gW := gW_mem 285 (by decide +kernel) rfl
theorem k_286 : (Jvm.Cond.code ({ cls := "StackJudge$Machine", name := "push", desc := "(I)V" } : Jvm.MethodName) prog_3_method_8_code (2 : Nat) (Option.none : Option Jvm.ClassFile.FieldType)) ∈ gW := gW_mem 286 (by decide +kernel) rfl
theorem k_287 : (Jvm.Cond.methodLink "StackJudge$Machine" (92 : Nat) ({ cls := "StackJudge$Machine", name := "combine", desc := "(III)I" } : Jvm.MethodName)) ∈ gW := gW_mem 287 (by decide +kernel) rfl
theorem k_288 : (Jvm.Cond.static ({ cls := "StackJudge$Machine", name := "combine", desc := "(III)I" } : Jvm.MethodName)) ∈ gW := gW_mem 288 (by decide +kernel) rfl
theorem k_289 : (Jvm.Cond.code ({ cls := "StackJudge$Machine", name := "combine", desc := "(III)I" } : Jvm.MethodName) prog_3_method_6_code (3 : Nat) (Option.some Jvm.ClassFile.FieldType.int)) ∈ gW := gW_mem 289 (by decide +kernel) rfl
theorem k_306 : (Jvm.Cond.constantLong "StackJudge" (80 : Nat) (1099511627776 : Int64)) ∈ gW := gW_mem 306 (by decide +kernel) rfl
theorem k_329 : (Jvm.Cond.laysFinal "StackJudgeModel" "StackJudgeModel" "kind" "I") ∈ gW := gW_mem 329 (by decide +kernel) rfl
theorem k_331 : (Jvm.Cond.laysFinal "StackJudgeModel" "StackJudgeModel" "op" "[I") ∈ gW := gW_mem 331 (by decide +kernel) rfl
theorem k_333 : (Jvm.Cond.laysFinal "StackJudgeModel" "StackJudgeModel" "number" "[I") ∈ gW := gW_mem 333 (by decide +kernel) rfl
theorem k_335 : (Jvm.Cond.lays "StackJudgeModel" "StackJudgeModel" "length" "I") ∈ gW := gW_mem 335 (by decide +kernel) rfl
theorem k_337 : (Jvm.Cond.laysFinal "StackJudgeModel" "StackJudgeModel" "reached" "[I") ∈ gW := gW_mem 337 (by decide +kernel) rfl
theorem k_339 : (Jvm.Cond.laysFinal "StackJudgeModel" "StackJudgeModel" "wrong" "[Z") ∈ gW := gW_mem 339 (by decide +kernel) rfl
theorem k_341 : (Jvm.Cond.laysFinal "StackJudgeModel" "StackJudgeModel" "stack" "[I") ∈ gW := gW_mem 341 (by decide +kernel) rfl
theorem k_343 : (Jvm.Cond.laysFinal "StackJudgeModel" "StackJudgeModel" "local" "[I") ∈ gW := gW_mem 343 (by decide +kernel) rfl
theorem k_345 : (Jvm.Cond.laysFinal "StackJudgeModel" "StackJudgeModel" "key" "[I") ∈ gW := gW_mem 345 (by decide +kernel) rfl
theorem k_347 : (Jvm.Cond.laysFinal "StackJudgeModel" "StackJudgeModel" "value" "[I") ∈ gW := gW_mem 347 (by decide +kernel) rfl
theorem k_349 : (Jvm.Cond.lays "StackJudgeModel" "StackJudgeModel" "emitted" "I") ∈ gW := gW_mem 349 (by decide +kernel) rfl
theorem k_351 : (Jvm.Cond.lays "StackJudgeModel" "StackJudgeModel" "steps" "I") ∈ gW := gW_mem 351 (by decide +kernel) rfl
theorem k_353 : (Jvm.Cond.lays "StackJudgeModel" "StackJudgeModel" "result" "I") ∈ gW := gW_mem 353 (by decide +kernel) rfl
theorem in_SJ : ∀ w ∈ u_ws R_SJ F_SJ 3, w ∈ gW := List.forall_mem_cons.mpr ⟨k_122, List.forall_mem_cons.mpr ⟨k_124, List.forall_mem_cons.mpr ⟨k_126, fun _ h => absurd h List.not_mem_nil⟩⟩⟩
theorem in_Program : ∀ w ∈ u_ws R_Program F_Program 5, w ∈ gW := List.forall_mem_cons.mpr ⟨k_48, List.forall_mem_cons.mpr ⟨k_50, List.forall_mem_cons.mpr ⟨k_52, List.forall_mem_cons.mpr ⟨k_54, List.forall_mem_cons.mpr ⟨k_56, fun _ h => absurd h List.not_mem_nil⟩⟩⟩⟩⟩
theorem in_Ways : ∀ w ∈ u_ws R_Ways F_Ways 3, w ∈ gW := List.forall_mem_cons.mpr ⟨k_70, List.forall_mem_cons.mpr ⟨k_72, List.forall_mem_cons.mpr ⟨k_74, fun _ h => absurd h List.not_mem_nil⟩⟩⟩
theorem in_Machine : ∀ w ∈ u_ws R_Machine F_Machine 10, w ∈ gW := List.forall_mem_cons.mpr ⟨k_98, List.forall_mem_cons.mpr ⟨k_100, List.forall_mem_cons.mpr ⟨k_102, List.forall_mem_cons.mpr ⟨k_104, List.forall_mem_cons.mpr ⟨k_106, List.forall_mem_cons.mpr ⟨k_108, List.forall_mem_cons.mpr ⟨k_110, List.forall_mem_cons.mpr ⟨k_112, List.forall_mem_cons.mpr ⟨k_114, List.forall_mem_cons.mpr ⟨k_116, fun _ h => absurd h List.not_mem_nil⟩⟩⟩⟩⟩⟩⟩⟩⟩⟩
theorem in_Model : ∀ w ∈ u_ws R_Model F_Model 13, w ∈ gW := List.forall_mem_cons.mpr ⟨k_329, List.forall_mem_cons.mpr ⟨k_331, List.forall_mem_cons.mpr ⟨k_333, List.forall_mem_cons.mpr ⟨k_335, List.forall_mem_cons.mpr ⟨k_337, List.forall_mem_cons.mpr ⟨k_339, List.forall_mem_cons.mpr ⟨k_341, List.forall_mem_cons.mpr ⟨k_343, List.forall_mem_cons.mpr ⟨k_345, List.forall_mem_cons.mpr ⟨k_347, List.forall_mem_cons.mpr ⟨k_349, List.forall_mem_cons.mpr ⟨k_351, List.forall_mem_cons.mpr ⟨k_353, fun _ h => absurd h List.not_mem_nil⟩⟩⟩⟩⟩⟩⟩⟩⟩⟩⟩⟩⟩
abbrev w_SJ_init : List Cond := .code y_SJ_init b_SJ_init 2 none :: gW
abbrev w_SJ_code : List Cond := .code y_SJ_code b_SJ_code 3 (some .int) :: gW
abbrev w_SJ_clear : List Cond := .code y_SJ_clear b_SJ_clear 2 (some .int) :: gW
abbrev w_SJ_drop : List Cond := .code y_SJ_drop b_SJ_drop 1 (some .int) :: gW
abbrev w_SJ_check : List Cond := .code y_SJ_check b_SJ_check 1 (some .int) :: gW
abbrev w_SJ_heights : List Cond := .code y_SJ_heights b_SJ_heights 2 (some .int) :: gW
abbrev w_SJ_call : List Cond := .code y_SJ_call b_SJ_call 4 (some .int) :: gW
abbrev w_SJ_result : List Cond := .code y_SJ_result b_SJ_result 1 (some .int) :: gW
abbrev w_SJ_steps : List Cond := .code y_SJ_steps b_SJ_steps 1 (some .int) :: gW
abbrev w_SJ_pairs : List Cond := .code y_SJ_pairs b_SJ_pairs 1 (some .int) :: gW
abbrev w_SJ_pair : List Cond := .code y_SJ_pair b_SJ_pair 3 (some .long) :: gW
abbrev w_SJ_read : List Cond := .code y_SJ_read b_SJ_read 2 (some .int) :: gW
abbrev w_SJ_write : List Cond := .code y_SJ_write b_SJ_write 3 none :: gW
abbrev w_Model_init : List Cond := .code y_Model_init b_Model_init 2 none :: gW
abbrev w_Model_code : List Cond := .code y_Model_code b_Model_code 3 (some .int) :: gW
abbrev w_Model_clear : List Cond := .code y_Model_clear b_Model_clear 2 (some .int) :: gW
abbrev w_Model_drop : List Cond := .code y_Model_drop b_Model_drop 1 (some .int) :: gW
abbrev w_Model_isBad : List Cond := .code y_Model_isBad b_Model_isBad 4 (some .boolean) :: gW
abbrev w_Model_needs : List Cond := .code y_Model_needs b_Model_needs 2 (some .int) :: gW
abbrev w_Model_grows : List Cond := .code y_Model_grows b_Model_grows 1 (some .int) :: gW
abbrev w_Model_reach : List Cond := .code y_Model_reach b_Model_reach 3 none :: gW
abbrev w_Model_goOn : List Cond := .code y_Model_goOn b_Model_goOn 6 none :: gW
abbrev w_Model_fill : List Cond := .code y_Model_fill b_Model_fill 3 none :: gW
abbrev w_Model_heights : List Cond := .code y_Model_heights b_Model_heights 4 (some .int) :: gW
abbrev w_Model_check : List Cond := .code y_Model_check b_Model_check 4 (some .int) :: gW
abbrev w_Model_reckoned : List Cond := .code y_Model_reckoned b_Model_reckoned 3 (some .int) :: gW
abbrev w_Model_done : List Cond := .code y_Model_done b_Model_done 9 (some .int) :: gW
abbrev w_Model_call : List Cond := .code y_Model_call b_Model_call 5 (some .int) :: gW
abbrev w_Model_result : List Cond := .code y_Model_result b_Model_result 1 (some .int) :: gW
abbrev w_Model_steps : List Cond := .code y_Model_steps b_Model_steps 1 (some .int) :: gW
abbrev w_Model_pairs : List Cond := .code y_Model_pairs b_Model_pairs 1 (some .int) :: gW
abbrev w_Model_pair : List Cond := .code y_Model_pair b_Model_pair 3 (some .long) :: gW
abbrev w_Machine_init : List Cond := .code y_Machine_init b_Machine_init 1 none :: gW
abbrev w_Machine_run : List Cond := .code y_Machine_run b_Machine_run 7 (some .int) :: gW
abbrev w_Machine_begin : List Cond := .code y_Machine_begin b_Machine_begin 4 none :: gW
abbrev w_Machine_doOne : List Cond := .code y_Machine_doOne b_Machine_doOne 4 (some .int) :: gW
abbrev w_Machine_move : List Cond := .code y_Machine_move b_Machine_move 8 none :: gW
abbrev w_Machine_combine : List Cond := .code y_Machine_combine b_Machine_combine 3 (some .int) :: gW
abbrev w_Machine_emit : List Cond := .code y_Machine_emit b_Machine_emit 1 (some .int) :: gW
abbrev w_Machine_push : List Cond := .code y_Machine_push b_Machine_push 2 none :: gW
abbrev w_Machine_pop : List Cond := .code y_Machine_pop b_Machine_pop 1 (some .int) :: gW
abbrev w_Op_isOf : List Cond := .code y_Op_isOf b_Op_isOf 2 (some .boolean) :: gW
abbrev w_Op_needs : List Cond := .code y_Op_needs b_Op_needs 2 (some .int) :: gW
abbrev w_Op_growth : List Cond := .code y_Op_growth b_Op_growth 1 (some .int) :: gW
abbrev w_Op_jumps : List Cond := .code y_Op_jumps b_Op_jumps 1 (some .boolean) :: gW
abbrev w_Op_hasNext : List Cond := .code y_Op_hasNext b_Op_hasNext 1 (some .boolean) :: gW
abbrev w_Program_init : List Cond := .code y_Program_init b_Program_init 2 none :: gW
abbrev w_Program_append : List Cond := .code y_Program_append b_Program_append 3 (some .boolean) :: gW
abbrev w_Program_keepFirst : List Cond := .code y_Program_keepFirst b_Program_keepFirst 2 none :: gW
abbrev w_Program_has : List Cond := .code y_Program_has b_Program_has 2 (some .boolean) :: gW
abbrev w_Program_opAt : List Cond := .code y_Program_opAt b_Program_opAt 2 (some .int) :: gW
abbrev w_Program_nAt : List Cond := .code y_Program_nAt b_Program_nAt 2 (some .int) :: gW
abbrev w_Program_isWellFormed : List Cond := .code y_Program_isWellFormed b_Program_isWellFormed 5 (some .boolean) :: gW
abbrev w_Program_limitOfN : List Cond := .code y_Program_limitOfN b_Program_limitOfN 2 (some .int) :: gW
abbrev w_Program_canBeDone : List Cond := .code y_Program_canBeDone b_Program_canBeDone 4 (some .boolean) :: gW
abbrev w_Ways_init : List Cond := .code y_Ways_init b_Ways_init 1 none :: gW
abbrev w_Ways_follow : List Cond := .code y_Ways_follow b_Ways_follow 4 none :: gW
abbrev w_Ways_goOn : List Cond := .code y_Ways_goOn b_Ways_goOn 6 none :: gW
abbrev w_Ways_reach : List Cond := .code y_Ways_reach b_Ways_reach 4 none :: gW
abbrev w_Ways_isReached : List Cond := .code y_Ways_isReached b_Ways_isReached 3 (some .boolean) :: gW
abbrev w_Ways_firstWrong : List Cond := .code y_Ways_firstWrong b_Ways_firstWrong 3 (some .int) :: gW
abbrev w_Ways_isWrong : List Cond := .code y_Ways_isWrong b_Ways_isWrong 4 (some .boolean) :: gW
abbrev w_Law_cell : List Cond := .code y_Law_cell b_Law_cell 2 (some .int) :: gW
abbrev w_Integer_bitCount : List Cond := .code y_Integer_bitCount b_Integer_bitCount 1 (some .int) :: gW
abbrev w_Arrays_fill : List Cond := .code y_Arrays_fill b_Arrays_fill 4 none :: gW
def nW : List Cond := [(Jvm.Cond.methodLinkNest "StackJudge" (20 : Nat) ({ cls := "StackJudge$Ways", name := "<init>", desc := "()V" } : Jvm.MethodName) "StackJudge"), (Jvm.Cond.methodLinkNest "StackJudge" (27 : Nat) ({ cls := "StackJudge$Machine", name := "<init>", desc := "()V" } : Jvm.MethodName) "StackJudge"), (Jvm.Cond.methodLinkNest "StackJudge$Program" (30 : Nat) ({ cls := "StackJudge", name := "write", desc := "([III)V" } : Jvm.MethodName) "StackJudge"), (Jvm.Cond.methodLinkNest "StackJudge$Ways" (32 : Nat) ({ cls := "StackJudge", name := "read", desc := "([II)I" } : Jvm.MethodName) "StackJudge"), (Jvm.Cond.methodLinkNest "StackJudge$Ways" (70 : Nat) ({ cls := "StackJudge", name := "write", desc := "([III)V" } : Jvm.MethodName) "StackJudge"), (Jvm.Cond.methodLinkNest "StackJudge$Program" (34 : Nat) ({ cls := "StackJudge", name := "read", desc := "([II)I" } : Jvm.MethodName) "StackJudge"), (Jvm.Cond.methodLinkNest "StackJudge$Op" (15 : Nat) ({ cls := "StackJudge", name := "read", desc := "([II)I" } : Jvm.MethodName) "StackJudge"), (Jvm.Cond.methodLinkNest "StackJudge$Machine" (57 : Nat) ({ cls := "StackJudge", name := "write", desc := "([III)V" } : Jvm.MethodName) "StackJudge"), (Jvm.Cond.methodLinkNest "StackJudge$Machine" (88 : Nat) ({ cls := "StackJudge", name := "read", desc := "([II)I" } : Jvm.MethodName) "StackJudge")]
theorem nm_0 : (Jvm.Cond.methodLinkNest "StackJudge" (20 : Nat) ({ cls := "StackJudge$Ways", name := "<init>", desc := "()V" } : Jvm.MethodName) "StackJudge") ∈ nW := List.mem_of_getElem? (i := 0) rfl
theorem nm_1 : (Jvm.Cond.methodLinkNest "StackJudge" (27 : Nat) ({ cls := "StackJudge$Machine", name := "<init>", desc := "()V" } : Jvm.MethodName) "StackJudge") ∈ nW := List.mem_of_getElem? (i := 1) rfl
theorem nm_2 : (Jvm.Cond.methodLinkNest "StackJudge$Program" (30 : Nat) ({ cls := "StackJudge", name := "write", desc := "([III)V" } : Jvm.MethodName) "StackJudge") ∈ nW := List.mem_of_getElem? (i := 2) rfl
theorem nm_3 : (Jvm.Cond.methodLinkNest "StackJudge$Ways" (32 : Nat) ({ cls := "StackJudge", name := "read", desc := "([II)I" } : Jvm.MethodName) "StackJudge") ∈ nW := List.mem_of_getElem? (i := 3) rfl
theorem nm_4 : (Jvm.Cond.methodLinkNest "StackJudge$Ways" (70 : Nat) ({ cls := "StackJudge", name := "write", desc := "([III)V" } : Jvm.MethodName) "StackJudge") ∈ nW := List.mem_of_getElem? (i := 4) rfl
theorem nm_5 : (Jvm.Cond.methodLinkNest "StackJudge$Program" (34 : Nat) ({ cls := "StackJudge", name := "read", desc := "([II)I" } : Jvm.MethodName) "StackJudge") ∈ nW := List.mem_of_getElem? (i := 5) rfl
theorem nm_6 : (Jvm.Cond.methodLinkNest "StackJudge$Op" (15 : Nat) ({ cls := "StackJudge", name := "read", desc := "([II)I" } : Jvm.MethodName) "StackJudge") ∈ nW := List.mem_of_getElem? (i := 6) rfl
theorem nm_7 : (Jvm.Cond.methodLinkNest "StackJudge$Machine" (57 : Nat) ({ cls := "StackJudge", name := "write", desc := "([III)V" } : Jvm.MethodName) "StackJudge") ∈ nW := List.mem_of_getElem? (i := 7) rfl
theorem nm_8 : (Jvm.Cond.methodLinkNest "StackJudge$Machine" (88 : Nat) ({ cls := "StackJudge", name := "read", desc := "([II)I" } : Jvm.MethodName) "StackJudge") ∈ nW := List.mem_of_getElem? (i := 8) rfl
theorem nW_on : ∀ w ∈ nW, w.onTables = true := List.forall_mem_cons.mpr ⟨rfl, List.forall_mem_cons.mpr ⟨rfl, List.forall_mem_cons.mpr ⟨rfl, List.forall_mem_cons.mpr ⟨rfl, List.forall_mem_cons.mpr ⟨rfl, List.forall_mem_cons.mpr ⟨rfl, List.forall_mem_cons.mpr ⟨rfl, List.forall_mem_cons.mpr ⟨rfl, List.forall_mem_cons.mpr ⟨rfl, fun _ h => absurd h List.not_mem_nil⟩⟩⟩⟩⟩⟩⟩⟩⟩
def NWs (U : State) : Prop := ∀ w ∈ nW, va_Nw w U
theorem NWs.warm {s U : State} (hW : s.WarmedH U.vm) (h : NWs s) : NWs U := List.forall_mem_cons.mpr ⟨va_Nw.warmM hW (h _ nm_0), List.forall_mem_cons.mpr ⟨va_Nw.warmM hW (h _ nm_1), List.forall_mem_cons.mpr ⟨va_Nw.warmM hW (h _ nm_2), List.forall_mem_cons.mpr ⟨va_Nw.warmM hW (h _ nm_3), List.forall_mem_cons.mpr ⟨va_Nw.warmM hW (h _ nm_4), List.forall_mem_cons.mpr ⟨va_Nw.warmM hW (h _ nm_5), List.forall_mem_cons.mpr ⟨va_Nw.warmM hW (h _ nm_6), List.forall_mem_cons.mpr ⟨va_Nw.warmM hW (h _ nm_7), List.forall_mem_cons.mpr ⟨va_Nw.warmM hW (h _ nm_8), fun _ h => absurd h List.not_mem_nil⟩⟩⟩⟩⟩⟩⟩⟩⟩
end
section
/-! the system's words: rows read and written by index, ops, the program, the ways, the machine -/
def rd (f : Nat → Int32) (n : Nat) (i : Int32) : Int32 := if i < 0 then 0 else if nI n ≤ i then 0 else f i.toNatClampNeg
def wr (f : Nat → Int32) (n : Nat) (i v : Int32) : Nat → Int32 := if i < 0 then f else if nI n ≤ i then f else upd f i.toNatClampNeg v
def tNeeds (j : Nat) : Int32 := ([0, 0, 0, 1, 1, 2, 1, 2, 2, 2, 2, 2, 2, 2, 0, 1, 2, 1, 0] : List Int32).getD j 0
def tGrow (j : Nat) : Int32 := ([1, 1, 1, -1, 1, 0, -1, -1, -1, -1, -1, -1, -1, -1, 0, -1, -2, 0, 0] : List Int32).getD j 0
def o_isOf (op kd : Int32) : Int32 := if op = 16 then (if kd = 0 then 1 else 0) else if op = 18 then (if kd = 3 then 1 else 0) else if op < 0 then 0 else if 17 < op then 0 else 1
def o_needs (op kd : Int32) : Int32 := if op = 17 then (if kd = 0 then 0 else rd tNeeds 19 op) else rd tNeeds 19 op
def o_grow (op : Int32) : Int32 := rd tGrow 19 op
def o_jump (op : Int32) : Int32 := if op = 14 then 1 else if op = 15 then 1 else 0
def o_next (op : Int32) : Int32 := if op = 14 then 0 else if op = 17 then 0 else if op = 18 then 0 else 1
def p_has (sz k : Int32) : Int32 := if k < 0 then 0 else if sz ≤ k then 0 else 1
def p_lim (ac sz op : Int32) : Int32 := if op = 1 then ac else if op = 2 then 4 else if op = 3 then 4 else if op = 14 then sz else if op = 15 then sz else -1
def p_wf (kd sz ac : Int32) (fo fn : Nat → Int32) (k : Int32) : Int32 := if o_isOf (rd fo 64 k) kd = 0 then 0 else if p_lim ac sz (rd fo 64 k) = -1 then 1 else if rd fn 64 k < 0 then 0 else if p_lim ac sz (rd fo 64 k) ≤ rd fn 64 k then 0 else 1
def p_fit (kd op h : Int32) : Int32 := if h < o_needs op kd then 0 else if 8 < h + o_grow op then 0 else 1
def p_cbd (kd sz ac : Int32) (fo fn : Nat → Int32) (k h : Int32) : Int32 := if p_wf kd sz ac fo fn k = 0 then 0 else if o_next (rd fo 64 k) = 0 then p_fit kd (rd fo 64 k) h else if p_has sz (k + 1) = 0 then 0 else p_fit kd (rd fo 64 k) h
abbrev WS : Type := (Nat → Int32) × (Nat → Int32) × Int32
def w_isR (fr : Nat → Int32) (k h : Int32) : Int32 := if (rd fr 64 k >>> (h &&& 31)) &&& 1 = 0 then 0 else 1
def w_reach (sz k h : Int32) (u : WS) : WS := if p_has sz k = 0 then u else if w_isR u.1 k h = 0 then (wr u.1 64 k (rd u.1 64 k ||| (1 <<< (h &&& 31))), wr u.2.1 576 u.2.2 (k * 9 + h), u.2.2 + 1) else u
def w_goOn (kd sz ac : Int32) (fo fn : Nat → Int32) (k h : Int32) (u : WS) : WS :=
  if p_cbd kd sz ac fo fn k h = 0 then u else
  if o_next (rd fo 64 k) = 0 then (if o_jump (rd fo 64 k) = 0 then u else w_reach sz (rd fn 64 k) (h + o_grow (rd fo 64 k)) u)
  else (if o_jump (rd fo 64 k) = 0 then w_reach sz (k + 1) (h + o_grow (rd fo 64 k)) u else w_reach sz (rd fn 64 k) (h + o_grow (rd fo 64 k)) (w_reach sz (k + 1) (h + o_grow (rd fo 64 k)) u))
def w_loop (kd sz ac : Int32) (fo fn : Nat → Int32) : Nat → Int32 → WS → WS
  | 0, _, u => u
  | n + 1, i, u => if nI 576 ≤ i then u else if u.2.2 ≤ i then u else w_loop kd sz ac fo fn n (i + 1) (w_goOn kd sz ac fo fn (rd u.2.1 576 i / 9) (rd u.2.1 576 i - rd u.2.1 576 i / 9 * 9) u)
def w_follow (kd sz ac : Int32) (fo fn fw : Nat → Int32) : WS := w_loop kd sz ac fo fn 576 0 (w_reach sz 0 0 (fun _ => 0, fw, 0))
def w_wrongL (kd sz ac : Int32) (fo fn fr : Nat → Int32) (k : Int32) : Nat → Int32 → Int32
  | 0, _ => 0
  | n + 1, h => if 9 ≤ h then 0 else if w_isR fr k h = 0 then w_wrongL kd sz ac fo fn fr k n (h + 1) else if p_cbd kd sz ac fo fn k h = 0 then 1 else w_wrongL kd sz ac fo fn fr k n (h + 1)
abbrev MS : Type := Int32 × Int32 × Int32 × (Nat → Int32) × (Nat → Int32) × (Nat → Int32) × (Nat → Int32) × (Nat → Int32) × Int32 × Int32
def m_comb (op x y : Int32) : Int32 := if op = 7 then x + y else if op = 8 then x - y else if op = 9 then x * y else if op = 10 then (if y = 0 then 0 else x / y) else if op = 11 then (if y = 0 then 0 else x - x / y * y) else if op = 12 then (if y ≤ x then 0 else 1) else (if x = y then 1 else 0)
def m_move (op n : Int32) : MS → MS
  | (res, stp, pcn, fk, fv, fa, fl, fs, ht, ap) =>
    if op = 0 then (res, stp, pcn, fk, fv, fa, fl, wr fs 8 ht n, ht + 1, ap)
    else if op = 1 then (res, stp, pcn, fk, fv, fa, fl, wr fs 8 ht (rd fa 3 n), ht + 1, ap)
    else if op = 2 then (res, stp, pcn, fk, fv, fa, fl, wr fs 8 ht (rd fl 4 n), ht + 1, ap)
    else if op = 3 then (res, stp, pcn, fk, fv, fa, wr fl 4 n (rd fs 8 (ht - 1)), fs, ht - 1, ap)
    else if op = 4 then (res, stp, pcn, fk, fv, fa, fl, wr (wr fs 8 (ht - 1) (rd fs 8 (ht - 1))) 8 (ht - 1 + 1) (rd fs 8 (ht - 1)), ht - 1 + 1 + 1, ap)
    else if op = 5 then (res, stp, pcn, fk, fv, fa, fl, wr (wr fs 8 (ht - 1 - 1) (rd fs 8 (ht - 1))) 8 (ht - 1 - 1 + 1) (rd fs 8 (ht - 1 - 1)), ht - 1 - 1 + 1 + 1, ap)
    else if op = 6 then (res, stp, pcn, fk, fv, fa, fl, fs, ht - 1, ap)
    else (res, stp, pcn, fk, fv, fa, fl, wr fs 8 (ht - 1 - 1) (m_comb op (rd fs 8 (ht - 1 - 1)) (rd fs 8 (ht - 1))), ht - 1 - 1 + 1, ap)
def m_emit : MS → Int32 × MS
  | (res, stp, pcn, fk, fv, fa, fl, fs, ht, ap) =>
    if pcn < 20 then (3, (res, stp, pcn + 1, wr fk 20 pcn (rd fs 8 (ht - 1 - 1)), wr fv 20 pcn (rd fs 8 (ht - 1)), fa, fl, fs, ht - 1 - 1, ap))
    else (2, (res, stp, pcn, fk, fv, fa, fl, fs, ht, ap))
def m_one (op n kd : Int32) : MS → Int32 × MS
  | (res, stp, pcn, fk, fv, fa, fl, fs, ht, ap) =>
    if op = 14 then (3, (res, stp, pcn, fk, fv, fa, fl, fs, ht, n))
    else if op = 15 then (if rd fs 8 (ht - 1) = 0 then (3, (res, stp, pcn, fk, fv, fa, fl, fs, ht - 1, n)) else (3, (res, stp, pcn, fk, fv, fa, fl, fs, ht - 1, ap + 1)))
    else if op = 16 then m_emit (res, stp, pcn, fk, fv, fa, fl, fs, ht, ap + 1)
    else if op = 17 then (if kd = 0 then (0, (0, stp, pcn, fk, fv, fa, fl, fs, ht, ap + 1)) else (0, (rd fs 8 (ht - 1), stp, pcn, fk, fv, fa, fl, fs, ht - 1, ap + 1)))
    else if op = 18 then (1, (res, stp, pcn, fk, fv, fa, fl, fs, ht, ap + 1))
    else (3, m_move op n (res, stp, pcn, fk, fv, fa, fl, fs, ht, ap + 1))
def m_tick : MS → MS
  | (res, stp, pcn, fk, fv, fa, fl, fs, ht, ap) => (res, stp + 1, pcn, fk, fv, fa, fl, fs, ht, ap)
def m_ap : MS → Int32
  | (_, _, _, _, _, _, _, _, _, ap) => ap
def m_zero : MS → MS
  | (res, stp, _, fk, fv, fa, fl, fs, ht, ap) => (res, stp, 0, fk, fv, fa, fl, fs, ht, ap)
def m_loop (kd : Int32) (fo fn : Nat → Int32) : Nat → Int32 → MS → Int32 × MS
  | 0, o, S => (o, S)
  | n + 1, o, S => if o = 3 then m_loop kd fo fn n (m_one (rd fo 64 (m_ap S)) (rd fn 64 (m_ap S)) kd (m_tick S)).1 (m_one (rd fo 64 (m_ap S)) (rd fn 64 (m_ap S)) kd (m_tick S)).2 else (o, S)
def m_fin (x : Int32 × MS) : Int32 × MS := if x.1 = 3 then (2, m_zero x.2) else if x.1 = 2 then (2, m_zero x.2) else x
def m_begin (a b c : Int32) : MS → MS
  | (_, _, _, fk, fv, fa, _, fs, _, _) => (0, 0, 0, fk, fv, wr (wr (wr fa 3 0 a) 3 1 b) 3 2 c, fun _ => 0, fs, 0, 0)
def m_run (kd : Int32) (fo fn : Nat → Int32) (a b c : Int32) (S : MS) : Int32 × MS := m_fin (m_loop kd fo fn 300 3 (m_begin a b c S))
end
section
abbrev rmk (k : Nat) : Room := { frames := k, cells := 0, slots := 0, locals := 40 * k }
def RP (a n : Nat) (f : Nat → Int32) (U : State) : Prop := va_T .int a n (fun j => .int (f j)) (fun _ => False) U U.heap
theorem RP_blind {av : List Value} {a n : Nat} {f : Nat → Int32} : FrameBlind (va_Pc av (RP a n f)) := fun a U g mk q => ⟨q.1, va_T.moved (u := U) (U := U.calling g mk a) (Vm.Alike.refl U.vm) q.2⟩
theorem rp_pre {s : State} {H : Heap} {D : va_G} {cl : List vw_C} {tys : List (ClassId × FieldType)} {ws : va_W} {cA : ClassId} {a n : Nat} {f : Nat → Int32} {i : Int32} (hK : va_K D cl tys s) (hP : va_P D cl ws H) (q0 t0 : Nat) (ha : ws[q0]? = some (a, .inl (cA, n, .inl f))) (ht : tys[t0]? = some (cA, .int)) : PreS s H (va_Pc [.ref a, .int i] (RP a n f)) [.ref a, .int i] := by
  refine ⟨RP_blind, fun U hU hW => ⟨rfl, ?_⟩⟩
  have hcell : H[a]? = some (vp_cell cA (n, .inl f)) := hP q0 _ ha
  refine ⟨vp_cell cA (n, .inl f), by rw [hU]; exact hcell, State.isArrayOf_alike hW.alike ((hK.2 t0 _ ht).1 n (fun j => .int (f j))), (fun q => by cases q), ?_, ?_, fun j hj => ?_, fun h => h⟩
  · show n ≤ (arrV _ _ _).slots.size
    rw [arrV_size]
    exact Nat.le_refl _
  · show (arrV _ _ _).slots.size.toInt32 = _
    rw [arrV_size]
  · show (arrV _ _ _).slots[j]? = _
    rw [arrV_read _ _ hj]
theorem nI_inr {n : Nat} {i : Int32} (hn : n < 2 ^ 31) (h1 : ¬ i < 0) (h2 : ¬ nI n ≤ i) : vp_in i n := by
  obtain ⟨j, hj, rfl⟩ := nI_of h1
  rw [nI_leI hn hj] at h2
  exact vp_in_nI (by omega) hn
section
variable (D : va_G) (cI cZ : ClassId) (tN tG : Nat)
theorem NWs.same {u U : State} (h : u.vm = U.vm) (hN : NWs u) : NWs U := fun w hw => va_Nw.same (nW_on w hw) h (hN w hw)
def EV (U : State) : Prop := va_K D classes [(cI, .int), (cZ, .boolean)] U ∧ NWs U
def ST (A : Nat → Prop) (U : State) (H : Heap) : Prop := va_Z R_Op "NEEDS" "[I" (.ref tN) A U H ∧ va_T .int tN 19 (fun j => .int (tNeeds j)) A U H ∧ va_Z R_Op "GROWTH" "[I" (.ref tG) A U H ∧ va_T .int tG 19 (fun j => .int (tGrow j)) A U H
def PZ (ws : va_W) (U : State) : Prop := va_P D classes ws U.heap ∧ EV D cI cZ U ∧ ST tN tG (fun _ => False) U U.heap
def MZ (ws : va_W) (sz : Nat) (U : State) : Prop := U.heap.size = sz ∧ va_P D classes ws U.heap ∧ EV D cI cZ U ∧ va_D (fun _ => True) ws ∧ ST tN tG (va_A ws sz) U U.heap
def ME (A : Nat → Prop) (ws1 : va_W) (t : State) : Prop := va_P D classes ws1 t.heap ∧ va_D A ws1
def PY (ws : va_W) (U : State) : Prop := va_P D classes ws U.heap ∧ EV D cI cZ U
def MY (ws : va_W) (sz : Nat) (U : State) : Prop := U.heap.size = sz ∧ va_P D classes ws U.heap ∧ EV D cI cZ U ∧ va_D (fun _ => True) ws
end
section
variable {D : va_G} {cI cZ : ClassId} {tN tG : Nat} {s U : State} {H : Heap} {A B : Nat → Prop} {locs : List Loc} {ws : va_W} {av As : List Value} {sz : Nat}
theorem EV.warm (hW : s.WarmedH U.vm) (h : EV D cI cZ s) : EV D cI cZ U := ⟨va_K.moved hW.alike h.1, NWs.warm hW h.2⟩
theorem EV.call {g : JFrame} {mk : MethodId} {a : Array Value} (h : EV D cI cZ U) : EV D cI cZ (U.calling g mk a) := ⟨va_K.moved (u := U) (U := U.calling g mk a) (Vm.Alike.refl U.vm) h.1, NWs.same (u := U) rfl h.2⟩
theorem ST.call {g : JFrame} {mk : MethodId} {a : Array Value} (h : ST tN tG A U U.heap) : ST tN tG A (U.calling g mk a) (U.calling g mk a).heap :=
  ⟨va_Z.moved (u := U) (U := U.calling g mk a) (Vm.Alike.refl U.vm) h.1, va_T.moved (u := U) (U := U.calling g mk a) (Vm.Alike.refl U.vm) h.2.1, va_Z.moved (u := U) (U := U.calling g mk a) (Vm.Alike.refl U.vm) h.2.2.1, va_T.moved (u := U) (U := U.calling g mk a) (Vm.Alike.refl U.vm) h.2.2.2⟩
theorem ST.use (hZ : ST tN tG A s s.heap) (hS : va_S A s.heap H locs) (hU : U.heap = H) (hW : s.WarmedH U.vm) (hB : ∀ q, B q → A q) : ST tN tG B U U.heap := by
  rw [hU]
  have hk : ∀ a : Nat, a < s.heap.size → ¬ A a → H[a]? = s.heap[a]? := fun a h1 h2 => hS.2.1 a h1 h2
  exact ⟨((hZ.1.kept hk).moved hW.alike).narrow hB, ((hZ.2.1.kept hk).moved hW.alike).narrow hB, ((hZ.2.2.1.kept hk).moved hW.alike).narrow hB, ((hZ.2.2.2.kept hk).moved hW.alike).narrow hB⟩
theorem PZ_blind : FrameBlind (va_Pc av (PZ D cI cZ tN tG ws)) := fun _ _ _ _ q => ⟨q.1, q.2.1, q.2.2.1.call, q.2.2.2.call⟩
theorem MZ_blind : FrameBlind (va_Pc av (MZ D cI cZ tN tG ws sz)) := fun _ _ _ _ q => ⟨q.1, q.2.1, q.2.2.1, q.2.2.2.1.call, q.2.2.2.2.1, q.2.2.2.2.2.call⟩
theorem PY_blind : FrameBlind (va_Pc av (PY D cI cZ ws)) := fun _ _ _ _ q => ⟨q.1, q.2.1, q.2.2.call⟩
theorem MY_blind : FrameBlind (va_Pc av (MY D cI cZ ws sz)) := fun _ _ _ _ q => ⟨q.1, q.2.1, q.2.2.1, q.2.2.2.1.call, q.2.2.2.2⟩
theorem pz_pre (hE : EV D cI cZ s) (hZ : ST tN tG A s s.heap) (hS : va_S A s.heap H locs) (hP : va_P D classes ws H) : ∀ U : State, U.heap = H → s.WarmedH U.vm → va_Pc av (PZ D cI cZ tN tG ws) av.toArray U :=
  fun U hU hW => ⟨rfl, by rw [hU]; exact hP, hE.warm hW, hZ.use hS hU hW (fun _ h => h.elim)⟩
theorem mz_pre (hE : EV D cI cZ s) (hZ : ST tN tG A s s.heap) (hS : va_S A s.heap H locs) (hP : va_P D classes ws H) (hD : va_D A ws) (hF : ∀ q, va_A ws H.size q → A q) : ∀ U : State, U.heap = H → s.WarmedH U.vm → va_Pc av (MZ D cI cZ tN tG ws H.size) av.toArray U :=
  fun U hU hW => ⟨rfl, by rw [hU], by rw [hU]; exact hP, hE.warm hW, hD.weaken (fun _ _ _ _ => trivial), hZ.use hS hU hW hF⟩
theorem py_pre (hE : EV D cI cZ s) (hP : va_P D classes ws H) : ∀ U : State, U.heap = H → s.WarmedH U.vm → va_Pc av (PY D cI cZ ws) av.toArray U :=
  fun U hU hW => ⟨rfl, by rw [hU]; exact hP, hE.warm hW⟩
theorem my_pre (hE : EV D cI cZ s) (hP : va_P D classes ws H) (hD : va_D A ws) : ∀ U : State, U.heap = H → s.WarmedH U.vm → va_Pc av (MY D cI cZ ws H.size) av.toArray U :=
  fun U hU hW => ⟨rfl, by rw [hU], by rw [hU]; exact hP, hE.warm hW, hD.weaken (fun _ _ _ _ => trivial)⟩
end
theorem rp_preT {s : State} {H : Heap} {A : Nat → Prop} {locs : List Loc} {a n : Nat} {f : Nat → Int32} {i : Int32} (hT : va_T .int a n (fun j => .int (f j)) A s s.heap) (hS : va_S A s.heap H locs) : PreS s H (va_Pc [.ref a, .int i] (RP a n f)) [.ref a, .int i] :=
  ⟨RP_blind, fun U hU hW => ⟨rfl, by
    show va_T .int a n (fun j => .int (f j)) (fun _ => False) U U.heap
    rw [hU]
    exact ((hT.kept (fun q h1 h2 => hS.2.1 q h1 h2)).moved hW.alike).narrow (fun _ h => h.elim)⟩⟩
theorem sw_ne {x k : Int32} {lo hi : Int} (h : x.toInt < lo ∨ hi < x.toInt) (hk : lo ≤ k.toInt ∧ k.toInt ≤ hi) : ¬ x = k := fun e => by
  subst e
  omega
theorem arr_congr {n : Nat} {f g : Nat → Int32} (h : ∀ j, j < n → f j = g j) (cA : ClassId) : vp_cell cA (n, .inl f) = vp_cell cA (n, .inl g) := by
  show arrV cA n (fun j => .int (f j)) = arrV cA n (fun j => .int (g j))
  unfold arrV
  congr 1
  congr 1
  funext j
  show Value.int (f j.val) = Value.int (g j.val)
  rw [h j.val j.isLt]
theorem P_arr1 {D : va_G} {a n : Nat} {cA : ClassId} {f g : Nat → Int32} {H : Heap} (h : ∀ j, j < n → f j = g j) (hP : va_P D classes [(a, .inl (cA, n, .inl f))] H) : va_P D classes [(a, .inl (cA, n, .inl g))] H := by
  intro k q hk
  have h0 := hP 0 _ rfl
  match k, hk with
  | 0, hk =>
    cases hk
    show H[a]? = some (vp_cell cA (n, .inl g))
    rw [← arr_congr h]
    exact h0
theorem D_arr1 {A : Nat → Prop} {a n : Nat} {cA : ClassId} {f g : Nat → Int32} (hD : va_D A [(a, .inl (cA, n, .inl f))]) : va_D A [(a, .inl (cA, n, .inl g))] := hD.set (p := 0) (e := .inl (cA, n, .inl g)) rfl
end
section
theorem d_SJ_init_0 : decode b_SJ_init 0 = .ok (.aload_n 0, 1) := by decide +kernel
theorem d_SJ_init_1 : decode b_SJ_init 1 = .ok (.invokespecial 1, 3) := by decide +kernel
theorem d_SJ_init_4 : decode b_SJ_init 4 = .ok (.aload_n 0, 1) := by decide +kernel
theorem d_SJ_init_5 : decode b_SJ_init 5 = .ok (.new 7, 3) := by decide +kernel
theorem d_SJ_init_8 : decode b_SJ_init 8 = .ok (.dup, 1) := by decide +kernel
theorem d_SJ_init_9 : decode b_SJ_init 9 = .ok (.iload_n 1, 1) := by decide +kernel
theorem d_SJ_init_10 : decode b_SJ_init 10 = .ok (.iconst 3, 1) := by decide +kernel
theorem d_SJ_init_11 : decode b_SJ_init 11 = .ok (.iand, 1) := by decide +kernel
theorem d_SJ_init_12 : decode b_SJ_init 12 = .ok (.invokespecial 9, 3) := by decide +kernel
theorem d_SJ_init_15 : decode b_SJ_init 15 = .ok (.putfield 12, 3) := by decide +kernel
theorem d_SJ_init_18 : decode b_SJ_init 18 = .ok (.aload_n 0, 1) := by decide +kernel
theorem d_SJ_init_19 : decode b_SJ_init 19 = .ok (.new 18, 3) := by decide +kernel
theorem d_SJ_init_22 : decode b_SJ_init 22 = .ok (.dup, 1) := by decide +kernel
theorem d_SJ_init_23 : decode b_SJ_init 23 = .ok (.invokespecial 20, 3) := by decide +kernel
theorem d_SJ_init_26 : decode b_SJ_init 26 = .ok (.putfield 21, 3) := by decide +kernel
theorem d_SJ_init_29 : decode b_SJ_init 29 = .ok (.aload_n 0, 1) := by decide +kernel
theorem d_SJ_init_30 : decode b_SJ_init 30 = .ok (.new 25, 3) := by decide +kernel
theorem d_SJ_init_33 : decode b_SJ_init 33 = .ok (.dup, 1) := by decide +kernel
theorem d_SJ_init_34 : decode b_SJ_init 34 = .ok (.invokespecial 27, 3) := by decide +kernel
theorem d_SJ_init_37 : decode b_SJ_init 37 = .ok (.putfield 28, 3) := by decide +kernel
theorem d_SJ_init_40 : decode b_SJ_init 40 = .ok (.return_, 1) := by decide +kernel
theorem d_SJ_code_0 : decode b_SJ_code 0 = .ok (.aload_n 0, 1) := by decide +kernel
theorem d_SJ_code_1 : decode b_SJ_code 1 = .ok (.getfield 12, 3) := by decide +kernel
theorem d_SJ_code_4 : decode b_SJ_code 4 = .ok (.iload_n 1, 1) := by decide +kernel
theorem d_SJ_code_5 : decode b_SJ_code 5 = .ok (.iload_n 2, 1) := by decide +kernel
theorem d_SJ_code_6 : decode b_SJ_code 6 = .ok (.invokevirtual 32, 3) := by decide +kernel
theorem d_SJ_code_9 : decode b_SJ_code 9 = .ok (.ifCond .eq 15, 3) := by decide +kernel
theorem d_SJ_code_12 : decode b_SJ_code 12 = .ok (.aload_n 0, 1) := by decide +kernel
theorem d_SJ_code_13 : decode b_SJ_code 13 = .ok (.getfield 12, 3) := by decide +kernel
theorem d_SJ_code_16 : decode b_SJ_code 16 = .ok (.getfield 36, 3) := by decide +kernel
theorem d_SJ_code_19 : decode b_SJ_code 19 = .ok (.iconst 1, 1) := by decide +kernel
theorem d_SJ_code_20 : decode b_SJ_code 20 = .ok (.isub, 1) := by decide +kernel
theorem d_SJ_code_21 : decode b_SJ_code 21 = .ok (.goto 5, 3) := by decide +kernel
theorem d_SJ_code_24 : decode b_SJ_code 24 = .ok (.bipush (-3), 2) := by decide +kernel
theorem d_SJ_code_26 : decode b_SJ_code 26 = .ok (.ireturn, 1) := by decide +kernel
theorem d_SJ_clear_0 : decode b_SJ_clear 0 = .ok (.aload_n 0, 1) := by decide +kernel
theorem d_SJ_clear_1 : decode b_SJ_clear 1 = .ok (.getfield 12, 3) := by decide +kernel
theorem d_SJ_clear_4 : decode b_SJ_clear 4 = .ok (.getfield 36, 3) := by decide +kernel
theorem d_SJ_clear_7 : decode b_SJ_clear 7 = .ok (.istore_n 1, 1) := by decide +kernel
theorem d_SJ_clear_8 : decode b_SJ_clear 8 = .ok (.aload_n 0, 1) := by decide +kernel
theorem d_SJ_clear_9 : decode b_SJ_clear 9 = .ok (.getfield 12, 3) := by decide +kernel
theorem d_SJ_clear_12 : decode b_SJ_clear 12 = .ok (.iconst 0, 1) := by decide +kernel
theorem d_SJ_clear_13 : decode b_SJ_clear 13 = .ok (.invokevirtual 40, 3) := by decide +kernel
theorem d_SJ_clear_16 : decode b_SJ_clear 16 = .ok (.iload_n 1, 1) := by decide +kernel
theorem d_SJ_clear_17 : decode b_SJ_clear 17 = .ok (.ireturn, 1) := by decide +kernel
theorem d_SJ_drop_0 : decode b_SJ_drop 0 = .ok (.aload_n 0, 1) := by decide +kernel
theorem d_SJ_drop_1 : decode b_SJ_drop 1 = .ok (.getfield 12, 3) := by decide +kernel
theorem d_SJ_drop_4 : decode b_SJ_drop 4 = .ok (.getfield 36, 3) := by decide +kernel
theorem d_SJ_drop_7 : decode b_SJ_drop 7 = .ok (.ifCond .ne 6, 3) := by decide +kernel
theorem d_SJ_drop_10 : decode b_SJ_drop 10 = .ok (.bipush (-2), 2) := by decide +kernel
theorem d_SJ_drop_12 : decode b_SJ_drop 12 = .ok (.ireturn, 1) := by decide +kernel
theorem d_SJ_drop_13 : decode b_SJ_drop 13 = .ok (.aload_n 0, 1) := by decide +kernel
theorem d_SJ_drop_14 : decode b_SJ_drop 14 = .ok (.getfield 12, 3) := by decide +kernel
theorem d_SJ_drop_17 : decode b_SJ_drop 17 = .ok (.aload_n 0, 1) := by decide +kernel
theorem d_SJ_drop_18 : decode b_SJ_drop 18 = .ok (.getfield 12, 3) := by decide +kernel
theorem d_SJ_drop_21 : decode b_SJ_drop 21 = .ok (.getfield 36, 3) := by decide +kernel
theorem d_SJ_drop_24 : decode b_SJ_drop 24 = .ok (.iconst 1, 1) := by decide +kernel
theorem d_SJ_drop_25 : decode b_SJ_drop 25 = .ok (.isub, 1) := by decide +kernel
theorem d_SJ_drop_26 : decode b_SJ_drop 26 = .ok (.invokevirtual 40, 3) := by decide +kernel
theorem d_SJ_drop_29 : decode b_SJ_drop 29 = .ok (.aload_n 0, 1) := by decide +kernel
theorem d_SJ_drop_30 : decode b_SJ_drop 30 = .ok (.getfield 12, 3) := by decide +kernel
theorem d_SJ_drop_33 : decode b_SJ_drop 33 = .ok (.getfield 36, 3) := by decide +kernel
theorem d_SJ_drop_36 : decode b_SJ_drop 36 = .ok (.ireturn, 1) := by decide +kernel
theorem d_SJ_check_0 : decode b_SJ_check 0 = .ok (.aload_n 0, 1) := by decide +kernel
theorem d_SJ_check_1 : decode b_SJ_check 1 = .ok (.getfield 12, 3) := by decide +kernel
theorem d_SJ_check_4 : decode b_SJ_check 4 = .ok (.getfield 36, 3) := by decide +kernel
theorem d_SJ_check_7 : decode b_SJ_check 7 = .ok (.ifCond .ne 6, 3) := by decide +kernel
theorem d_SJ_check_10 : decode b_SJ_check 10 = .ok (.bipush 64, 2) := by decide +kernel
theorem d_SJ_check_12 : decode b_SJ_check 12 = .ok (.ireturn, 1) := by decide +kernel
theorem d_SJ_check_13 : decode b_SJ_check 13 = .ok (.aload_n 0, 1) := by decide +kernel
theorem d_SJ_check_14 : decode b_SJ_check 14 = .ok (.getfield 21, 3) := by decide +kernel
theorem d_SJ_check_17 : decode b_SJ_check 17 = .ok (.aload_n 0, 1) := by decide +kernel
theorem d_SJ_check_18 : decode b_SJ_check 18 = .ok (.getfield 12, 3) := by decide +kernel
theorem d_SJ_check_21 : decode b_SJ_check 21 = .ok (.invokevirtual 43, 3) := by decide +kernel
theorem d_SJ_check_24 : decode b_SJ_check 24 = .ok (.aload_n 0, 1) := by decide +kernel
theorem d_SJ_check_25 : decode b_SJ_check 25 = .ok (.getfield 21, 3) := by decide +kernel
theorem d_SJ_check_28 : decode b_SJ_check 28 = .ok (.aload_n 0, 1) := by decide +kernel
theorem d_SJ_check_29 : decode b_SJ_check 29 = .ok (.getfield 12, 3) := by decide +kernel
theorem d_SJ_check_32 : decode b_SJ_check 32 = .ok (.invokevirtual 47, 3) := by decide +kernel
theorem d_SJ_check_35 : decode b_SJ_check 35 = .ok (.ireturn, 1) := by decide +kernel
theorem d_SJ_heights_0 : decode b_SJ_heights 0 = .ok (.aload_n 0, 1) := by decide +kernel
theorem d_SJ_heights_1 : decode b_SJ_heights 1 = .ok (.getfield 12, 3) := by decide +kernel
theorem d_SJ_heights_4 : decode b_SJ_heights 4 = .ok (.iload_n 1, 1) := by decide +kernel
theorem d_SJ_heights_5 : decode b_SJ_heights 5 = .ok (.invokevirtual 51, 3) := by decide +kernel
theorem d_SJ_heights_8 : decode b_SJ_heights 8 = .ok (.ifCond .ne 5, 3) := by decide +kernel
theorem d_SJ_heights_11 : decode b_SJ_heights 11 = .ok (.iconst (-1), 1) := by decide +kernel
theorem d_SJ_heights_12 : decode b_SJ_heights 12 = .ok (.ireturn, 1) := by decide +kernel
theorem d_SJ_heights_13 : decode b_SJ_heights 13 = .ok (.aload_n 0, 1) := by decide +kernel
theorem d_SJ_heights_14 : decode b_SJ_heights 14 = .ok (.getfield 21, 3) := by decide +kernel
theorem d_SJ_heights_17 : decode b_SJ_heights 17 = .ok (.aload_n 0, 1) := by decide +kernel
theorem d_SJ_heights_18 : decode b_SJ_heights 18 = .ok (.getfield 12, 3) := by decide +kernel
theorem d_SJ_heights_21 : decode b_SJ_heights 21 = .ok (.invokevirtual 43, 3) := by decide +kernel
theorem d_SJ_heights_24 : decode b_SJ_heights 24 = .ok (.aload_n 0, 1) := by decide +kernel
theorem d_SJ_heights_25 : decode b_SJ_heights 25 = .ok (.getfield 21, 3) := by decide +kernel
theorem d_SJ_heights_28 : decode b_SJ_heights 28 = .ok (.getfield 55, 3) := by decide +kernel
theorem d_SJ_heights_31 : decode b_SJ_heights 31 = .ok (.iload_n 1, 1) := by decide +kernel
theorem d_SJ_heights_32 : decode b_SJ_heights 32 = .ok (.invokestatic 59, 3) := by decide +kernel
theorem d_SJ_heights_35 : decode b_SJ_heights 35 = .ok (.ireturn, 1) := by decide +kernel
theorem d_SJ_call_0 : decode b_SJ_call 0 = .ok (.aload_n 0, 1) := by decide +kernel
theorem d_SJ_call_1 : decode b_SJ_call 1 = .ok (.invokevirtual 63, 3) := by decide +kernel
theorem d_SJ_call_4 : decode b_SJ_call 4 = .ok (.bipush (-2), 2) := by decide +kernel
theorem d_SJ_call_6 : decode b_SJ_call 6 = .ok (.if_icmp .eq 6, 3) := by decide +kernel
theorem d_SJ_call_9 : decode b_SJ_call 9 = .ok (.bipush (-2), 2) := by decide +kernel
theorem d_SJ_call_11 : decode b_SJ_call 11 = .ok (.ireturn, 1) := by decide +kernel
theorem d_SJ_call_12 : decode b_SJ_call 12 = .ok (.aload_n 0, 1) := by decide +kernel
theorem d_SJ_call_13 : decode b_SJ_call 13 = .ok (.getfield 28, 3) := by decide +kernel
theorem d_SJ_call_16 : decode b_SJ_call 16 = .ok (.aload_n 0, 1) := by decide +kernel
theorem d_SJ_call_17 : decode b_SJ_call 17 = .ok (.getfield 12, 3) := by decide +kernel
theorem d_SJ_call_20 : decode b_SJ_call 20 = .ok (.iload_n 1, 1) := by decide +kernel
theorem d_SJ_call_21 : decode b_SJ_call 21 = .ok (.iload_n 2, 1) := by decide +kernel
theorem d_SJ_call_22 : decode b_SJ_call 22 = .ok (.iload_n 3, 1) := by decide +kernel
theorem d_SJ_call_23 : decode b_SJ_call 23 = .ok (.invokevirtual 67, 3) := by decide +kernel
theorem d_SJ_call_26 : decode b_SJ_call 26 = .ok (.ireturn, 1) := by decide +kernel
theorem d_SJ_result_0 : decode b_SJ_result 0 = .ok (.aload_n 0, 1) := by decide +kernel
theorem d_SJ_result_1 : decode b_SJ_result 1 = .ok (.getfield 28, 3) := by decide +kernel
theorem d_SJ_result_4 : decode b_SJ_result 4 = .ok (.getfield 71, 3) := by decide +kernel
theorem d_SJ_result_7 : decode b_SJ_result 7 = .ok (.ireturn, 1) := by decide +kernel
theorem d_SJ_steps_0 : decode b_SJ_steps 0 = .ok (.aload_n 0, 1) := by decide +kernel
theorem d_SJ_steps_1 : decode b_SJ_steps 1 = .ok (.getfield 28, 3) := by decide +kernel
theorem d_SJ_steps_4 : decode b_SJ_steps 4 = .ok (.getfield 74, 3) := by decide +kernel
theorem d_SJ_steps_7 : decode b_SJ_steps 7 = .ok (.ireturn, 1) := by decide +kernel
theorem d_SJ_pairs_0 : decode b_SJ_pairs 0 = .ok (.aload_n 0, 1) := by decide +kernel
theorem d_SJ_pairs_1 : decode b_SJ_pairs 1 = .ok (.getfield 28, 3) := by decide +kernel
theorem d_SJ_pairs_4 : decode b_SJ_pairs 4 = .ok (.getfield 77, 3) := by decide +kernel
theorem d_SJ_pairs_7 : decode b_SJ_pairs 7 = .ok (.ireturn, 1) := by decide +kernel
theorem d_SJ_pair_0 : decode b_SJ_pair 0 = .ok (.iload_n 1, 1) := by decide +kernel
theorem d_SJ_pair_1 : decode b_SJ_pair 1 = .ok (.ifCond .lt 14, 3) := by decide +kernel
theorem d_SJ_pair_4 : decode b_SJ_pair 4 = .ok (.iload_n 1, 1) := by decide +kernel
theorem d_SJ_pair_5 : decode b_SJ_pair 5 = .ok (.aload_n 0, 1) := by decide +kernel
theorem d_SJ_pair_6 : decode b_SJ_pair 6 = .ok (.getfield 28, 3) := by decide +kernel
theorem d_SJ_pair_9 : decode b_SJ_pair 9 = .ok (.getfield 77, 3) := by decide +kernel
theorem d_SJ_pair_12 : decode b_SJ_pair 12 = .ok (.if_icmp .lt 7, 3) := by decide +kernel
theorem d_SJ_pair_15 : decode b_SJ_pair 15 = .ok (.ldc2_w 80, 3) := by decide +kernel
theorem d_SJ_pair_18 : decode b_SJ_pair 18 = .ok (.lreturn, 1) := by decide +kernel
theorem d_SJ_pair_19 : decode b_SJ_pair 19 = .ok (.iload_n 2, 1) := by decide +kernel
theorem d_SJ_pair_20 : decode b_SJ_pair 20 = .ok (.lookupswitch 54 #[(0, 28), (1, 41)], 28) := by decide +kernel
theorem d_SJ_pair_48 : decode b_SJ_pair 48 = .ok (.aload_n 0, 1) := by decide +kernel
theorem d_SJ_pair_49 : decode b_SJ_pair 49 = .ok (.getfield 28, 3) := by decide +kernel
theorem d_SJ_pair_52 : decode b_SJ_pair 52 = .ok (.getfield 82, 3) := by decide +kernel
theorem d_SJ_pair_55 : decode b_SJ_pair 55 = .ok (.iload_n 1, 1) := by decide +kernel
theorem d_SJ_pair_56 : decode b_SJ_pair 56 = .ok (.invokestatic 59, 3) := by decide +kernel
theorem d_SJ_pair_59 : decode b_SJ_pair 59 = .ok (.i2l, 1) := by decide +kernel
theorem d_SJ_pair_60 : decode b_SJ_pair 60 = .ok (.lreturn, 1) := by decide +kernel
theorem d_SJ_pair_61 : decode b_SJ_pair 61 = .ok (.aload_n 0, 1) := by decide +kernel
theorem d_SJ_pair_62 : decode b_SJ_pair 62 = .ok (.getfield 28, 3) := by decide +kernel
theorem d_SJ_pair_65 : decode b_SJ_pair 65 = .ok (.getfield 85, 3) := by decide +kernel
theorem d_SJ_pair_68 : decode b_SJ_pair 68 = .ok (.iload_n 1, 1) := by decide +kernel
theorem d_SJ_pair_69 : decode b_SJ_pair 69 = .ok (.invokestatic 59, 3) := by decide +kernel
theorem d_SJ_pair_72 : decode b_SJ_pair 72 = .ok (.i2l, 1) := by decide +kernel
theorem d_SJ_pair_73 : decode b_SJ_pair 73 = .ok (.lreturn, 1) := by decide +kernel
theorem d_SJ_pair_74 : decode b_SJ_pair 74 = .ok (.ldc2_w 80, 3) := by decide +kernel
theorem d_SJ_pair_77 : decode b_SJ_pair 77 = .ok (.lreturn, 1) := by decide +kernel
theorem d_SJ_read_0 : decode b_SJ_read 0 = .ok (.iload_n 1, 1) := by decide +kernel
theorem d_SJ_read_1 : decode b_SJ_read 1 = .ok (.ifCond .lt 15, 3) := by decide +kernel
theorem d_SJ_read_4 : decode b_SJ_read 4 = .ok (.iload_n 1, 1) := by decide +kernel
theorem d_SJ_read_5 : decode b_SJ_read 5 = .ok (.aload_n 0, 1) := by decide +kernel
theorem d_SJ_read_6 : decode b_SJ_read 6 = .ok (.arraylength, 1) := by decide +kernel
theorem d_SJ_read_7 : decode b_SJ_read 7 = .ok (.if_icmp .ge 9, 3) := by decide +kernel
theorem d_SJ_read_10 : decode b_SJ_read 10 = .ok (.aload_n 0, 1) := by decide +kernel
theorem d_SJ_read_11 : decode b_SJ_read 11 = .ok (.iload_n 1, 1) := by decide +kernel
theorem d_SJ_read_12 : decode b_SJ_read 12 = .ok (.iaload, 1) := by decide +kernel
theorem d_SJ_read_13 : decode b_SJ_read 13 = .ok (.goto 4, 3) := by decide +kernel
theorem d_SJ_read_16 : decode b_SJ_read 16 = .ok (.iconst 0, 1) := by decide +kernel
theorem d_SJ_read_17 : decode b_SJ_read 17 = .ok (.ireturn, 1) := by decide +kernel
theorem d_SJ_write_0 : decode b_SJ_write 0 = .ok (.iload_n 1, 1) := by decide +kernel
theorem d_SJ_write_1 : decode b_SJ_write 1 = .ok (.ifCond .lt 13, 3) := by decide +kernel
theorem d_SJ_write_4 : decode b_SJ_write 4 = .ok (.iload_n 1, 1) := by decide +kernel
theorem d_SJ_write_5 : decode b_SJ_write 5 = .ok (.aload_n 0, 1) := by decide +kernel
theorem d_SJ_write_6 : decode b_SJ_write 6 = .ok (.arraylength, 1) := by decide +kernel
theorem d_SJ_write_7 : decode b_SJ_write 7 = .ok (.if_icmp .ge 7, 3) := by decide +kernel
theorem d_SJ_write_10 : decode b_SJ_write 10 = .ok (.aload_n 0, 1) := by decide +kernel
theorem d_SJ_write_11 : decode b_SJ_write 11 = .ok (.iload_n 1, 1) := by decide +kernel
theorem d_SJ_write_12 : decode b_SJ_write 12 = .ok (.iload_n 2, 1) := by decide +kernel
theorem d_SJ_write_13 : decode b_SJ_write 13 = .ok (.iastore, 1) := by decide +kernel
theorem d_SJ_write_14 : decode b_SJ_write 14 = .ok (.return_, 1) := by decide +kernel
theorem d_Machine_init_0 : decode b_Machine_init 0 = .ok (.aload_n 0, 1) := by decide +kernel
theorem d_Machine_init_1 : decode b_Machine_init 1 = .ok (.invokespecial 3, 3) := by decide +kernel
theorem d_Machine_init_4 : decode b_Machine_init 4 = .ok (.aload_n 0, 1) := by decide +kernel
theorem d_Machine_init_5 : decode b_Machine_init 5 = .ok (.bipush 20, 2) := by decide +kernel
theorem d_Machine_init_7 : decode b_Machine_init 7 = .ok (.newarray .int, 2) := by decide +kernel
theorem d_Machine_init_9 : decode b_Machine_init 9 = .ok (.putfield 9, 3) := by decide +kernel
theorem d_Machine_init_12 : decode b_Machine_init 12 = .ok (.aload_n 0, 1) := by decide +kernel
theorem d_Machine_init_13 : decode b_Machine_init 13 = .ok (.bipush 20, 2) := by decide +kernel
theorem d_Machine_init_15 : decode b_Machine_init 15 = .ok (.newarray .int, 2) := by decide +kernel
theorem d_Machine_init_17 : decode b_Machine_init 17 = .ok (.putfield 15, 3) := by decide +kernel
theorem d_Machine_init_20 : decode b_Machine_init 20 = .ok (.aload_n 0, 1) := by decide +kernel
theorem d_Machine_init_21 : decode b_Machine_init 21 = .ok (.iconst 3, 1) := by decide +kernel
theorem d_Machine_init_22 : decode b_Machine_init 22 = .ok (.newarray .int, 2) := by decide +kernel
theorem d_Machine_init_24 : decode b_Machine_init 24 = .ok (.putfield 18, 3) := by decide +kernel
theorem d_Machine_init_27 : decode b_Machine_init 27 = .ok (.aload_n 0, 1) := by decide +kernel
theorem d_Machine_init_28 : decode b_Machine_init 28 = .ok (.iconst 4, 1) := by decide +kernel
theorem d_Machine_init_29 : decode b_Machine_init 29 = .ok (.newarray .int, 2) := by decide +kernel
theorem d_Machine_init_31 : decode b_Machine_init 31 = .ok (.putfield 21, 3) := by decide +kernel
theorem d_Machine_init_34 : decode b_Machine_init 34 = .ok (.aload_n 0, 1) := by decide +kernel
theorem d_Machine_init_35 : decode b_Machine_init 35 = .ok (.bipush 8, 2) := by decide +kernel
theorem d_Machine_init_37 : decode b_Machine_init 37 = .ok (.newarray .int, 2) := by decide +kernel
theorem d_Machine_init_39 : decode b_Machine_init 39 = .ok (.putfield 24, 3) := by decide +kernel
theorem d_Machine_init_42 : decode b_Machine_init 42 = .ok (.return_, 1) := by decide +kernel
theorem d_Machine_run_0 : decode b_Machine_run 0 = .ok (.aload_n 0, 1) := by decide +kernel
theorem d_Machine_run_1 : decode b_Machine_run 1 = .ok (.iload_n 2, 1) := by decide +kernel
theorem d_Machine_run_2 : decode b_Machine_run 2 = .ok (.iload_n 3, 1) := by decide +kernel
theorem d_Machine_run_3 : decode b_Machine_run 3 = .ok (.iload 4, 2) := by decide +kernel
theorem d_Machine_run_5 : decode b_Machine_run 5 = .ok (.invokevirtual 27, 3) := by decide +kernel
theorem d_Machine_run_8 : decode b_Machine_run 8 = .ok (.iconst 3, 1) := by decide +kernel
theorem d_Machine_run_9 : decode b_Machine_run 9 = .ok (.istore 5, 2) := by decide +kernel
theorem d_Machine_run_11 : decode b_Machine_run 11 = .ok (.iconst 0, 1) := by decide +kernel
theorem d_Machine_run_12 : decode b_Machine_run 12 = .ok (.istore 6, 2) := by decide +kernel
theorem d_Machine_run_14 : decode b_Machine_run 14 = .ok (.iload 6, 2) := by decide +kernel
theorem d_Machine_run_16 : decode b_Machine_run 16 = .ok (.sipush 300, 3) := by decide +kernel
theorem d_Machine_run_19 : decode b_Machine_run 19 = .ok (.if_icmp .ge 51, 3) := by decide +kernel
theorem d_Machine_run_22 : decode b_Machine_run 22 = .ok (.iload 5, 2) := by decide +kernel
theorem d_Machine_run_24 : decode b_Machine_run 24 = .ok (.iconst 3, 1) := by decide +kernel
theorem d_Machine_run_25 : decode b_Machine_run 25 = .ok (.if_icmp .ne 45, 3) := by decide +kernel
theorem d_Machine_run_28 : decode b_Machine_run 28 = .ok (.aload_n 0, 1) := by decide +kernel
theorem d_Machine_run_29 : decode b_Machine_run 29 = .ok (.dup, 1) := by decide +kernel
theorem d_Machine_run_30 : decode b_Machine_run 30 = .ok (.getfield 31, 3) := by decide +kernel
theorem d_Machine_run_33 : decode b_Machine_run 33 = .ok (.iconst 1, 1) := by decide +kernel
theorem d_Machine_run_34 : decode b_Machine_run 34 = .ok (.iadd, 1) := by decide +kernel
theorem d_Machine_run_35 : decode b_Machine_run 35 = .ok (.putfield 31, 3) := by decide +kernel
theorem d_Machine_run_38 : decode b_Machine_run 38 = .ok (.aload_n 0, 1) := by decide +kernel
theorem d_Machine_run_39 : decode b_Machine_run 39 = .ok (.aload_n 1, 1) := by decide +kernel
theorem d_Machine_run_40 : decode b_Machine_run 40 = .ok (.aload_n 0, 1) := by decide +kernel
theorem d_Machine_run_41 : decode b_Machine_run 41 = .ok (.getfield 35, 3) := by decide +kernel
theorem d_Machine_run_44 : decode b_Machine_run 44 = .ok (.invokevirtual 38, 3) := by decide +kernel
theorem d_Machine_run_47 : decode b_Machine_run 47 = .ok (.aload_n 1, 1) := by decide +kernel
theorem d_Machine_run_48 : decode b_Machine_run 48 = .ok (.aload_n 0, 1) := by decide +kernel
theorem d_Machine_run_49 : decode b_Machine_run 49 = .ok (.getfield 35, 3) := by decide +kernel
theorem d_Machine_run_52 : decode b_Machine_run 52 = .ok (.invokevirtual 44, 3) := by decide +kernel
theorem d_Machine_run_55 : decode b_Machine_run 55 = .ok (.aload_n 1, 1) := by decide +kernel
theorem d_Machine_run_56 : decode b_Machine_run 56 = .ok (.getfield 47, 3) := by decide +kernel
theorem d_Machine_run_59 : decode b_Machine_run 59 = .ok (.invokevirtual 50, 3) := by decide +kernel
theorem d_Machine_run_62 : decode b_Machine_run 62 = .ok (.istore 5, 2) := by decide +kernel
theorem d_Machine_run_64 : decode b_Machine_run 64 = .ok (.iinc 6 1, 3) := by decide +kernel
theorem d_Machine_run_67 : decode b_Machine_run 67 = .ok (.goto (-53), 3) := by decide +kernel
theorem d_Machine_run_70 : decode b_Machine_run 70 = .ok (.iload 5, 2) := by decide +kernel
theorem d_Machine_run_72 : decode b_Machine_run 72 = .ok (.iconst 3, 1) := by decide +kernel
theorem d_Machine_run_73 : decode b_Machine_run 73 = .ok (.if_icmp .eq 9, 3) := by decide +kernel
theorem d_Machine_run_76 : decode b_Machine_run 76 = .ok (.iload 5, 2) := by decide +kernel
theorem d_Machine_run_78 : decode b_Machine_run 78 = .ok (.iconst 2, 1) := by decide +kernel
theorem d_Machine_run_79 : decode b_Machine_run 79 = .ok (.if_icmp .ne 10, 3) := by decide +kernel
theorem d_Machine_run_82 : decode b_Machine_run 82 = .ok (.aload_n 0, 1) := by decide +kernel
theorem d_Machine_run_83 : decode b_Machine_run 83 = .ok (.iconst 0, 1) := by decide +kernel
theorem d_Machine_run_84 : decode b_Machine_run 84 = .ok (.putfield 54, 3) := by decide +kernel
theorem d_Machine_run_87 : decode b_Machine_run 87 = .ok (.iconst 2, 1) := by decide +kernel
theorem d_Machine_run_88 : decode b_Machine_run 88 = .ok (.ireturn, 1) := by decide +kernel
theorem d_Machine_run_89 : decode b_Machine_run 89 = .ok (.iload 5, 2) := by decide +kernel
theorem d_Machine_run_91 : decode b_Machine_run 91 = .ok (.ireturn, 1) := by decide +kernel
theorem d_Machine_begin_0 : decode b_Machine_begin 0 = .ok (.aload_n 0, 1) := by decide +kernel
theorem d_Machine_begin_1 : decode b_Machine_begin 1 = .ok (.getfield 18, 3) := by decide +kernel
theorem d_Machine_begin_4 : decode b_Machine_begin 4 = .ok (.iconst 0, 1) := by decide +kernel
theorem d_Machine_begin_5 : decode b_Machine_begin 5 = .ok (.iload_n 1, 1) := by decide +kernel
theorem d_Machine_begin_6 : decode b_Machine_begin 6 = .ok (.invokestatic 57, 3) := by decide +kernel
theorem d_Machine_begin_9 : decode b_Machine_begin 9 = .ok (.aload_n 0, 1) := by decide +kernel
theorem d_Machine_begin_10 : decode b_Machine_begin 10 = .ok (.getfield 18, 3) := by decide +kernel
theorem d_Machine_begin_13 : decode b_Machine_begin 13 = .ok (.iconst 1, 1) := by decide +kernel
theorem d_Machine_begin_14 : decode b_Machine_begin 14 = .ok (.iload_n 2, 1) := by decide +kernel
theorem d_Machine_begin_15 : decode b_Machine_begin 15 = .ok (.invokestatic 57, 3) := by decide +kernel
theorem d_Machine_begin_18 : decode b_Machine_begin 18 = .ok (.aload_n 0, 1) := by decide +kernel
theorem d_Machine_begin_19 : decode b_Machine_begin 19 = .ok (.getfield 18, 3) := by decide +kernel
theorem d_Machine_begin_22 : decode b_Machine_begin 22 = .ok (.iconst 2, 1) := by decide +kernel
theorem d_Machine_begin_23 : decode b_Machine_begin 23 = .ok (.iload_n 3, 1) := by decide +kernel
theorem d_Machine_begin_24 : decode b_Machine_begin 24 = .ok (.invokestatic 57, 3) := by decide +kernel
theorem d_Machine_begin_27 : decode b_Machine_begin 27 = .ok (.aload_n 0, 1) := by decide +kernel
theorem d_Machine_begin_28 : decode b_Machine_begin 28 = .ok (.getfield 21, 3) := by decide +kernel
theorem d_Machine_begin_31 : decode b_Machine_begin 31 = .ok (.iconst 0, 1) := by decide +kernel
theorem d_Machine_begin_32 : decode b_Machine_begin 32 = .ok (.invokestatic 61, 3) := by decide +kernel
theorem d_Machine_begin_35 : decode b_Machine_begin 35 = .ok (.aload_n 0, 1) := by decide +kernel
theorem d_Machine_begin_36 : decode b_Machine_begin 36 = .ok (.iconst 0, 1) := by decide +kernel
theorem d_Machine_begin_37 : decode b_Machine_begin 37 = .ok (.putfield 67, 3) := by decide +kernel
theorem d_Machine_begin_40 : decode b_Machine_begin 40 = .ok (.aload_n 0, 1) := by decide +kernel
theorem d_Machine_begin_41 : decode b_Machine_begin 41 = .ok (.iconst 0, 1) := by decide +kernel
theorem d_Machine_begin_42 : decode b_Machine_begin 42 = .ok (.putfield 35, 3) := by decide +kernel
theorem d_Machine_begin_45 : decode b_Machine_begin 45 = .ok (.aload_n 0, 1) := by decide +kernel
theorem d_Machine_begin_46 : decode b_Machine_begin 46 = .ok (.iconst 0, 1) := by decide +kernel
theorem d_Machine_begin_47 : decode b_Machine_begin 47 = .ok (.putfield 70, 3) := by decide +kernel
theorem d_Machine_begin_50 : decode b_Machine_begin 50 = .ok (.aload_n 0, 1) := by decide +kernel
theorem d_Machine_begin_51 : decode b_Machine_begin 51 = .ok (.iconst 0, 1) := by decide +kernel
theorem d_Machine_begin_52 : decode b_Machine_begin 52 = .ok (.putfield 31, 3) := by decide +kernel
theorem d_Machine_begin_55 : decode b_Machine_begin 55 = .ok (.aload_n 0, 1) := by decide +kernel
theorem d_Machine_begin_56 : decode b_Machine_begin 56 = .ok (.iconst 0, 1) := by decide +kernel
theorem d_Machine_begin_57 : decode b_Machine_begin 57 = .ok (.putfield 54, 3) := by decide +kernel
theorem d_Machine_begin_60 : decode b_Machine_begin 60 = .ok (.return_, 1) := by decide +kernel
theorem d_Machine_doOne_0 : decode b_Machine_doOne 0 = .ok (.aload_n 0, 1) := by decide +kernel
theorem d_Machine_doOne_1 : decode b_Machine_doOne 1 = .ok (.dup, 1) := by decide +kernel
theorem d_Machine_doOne_2 : decode b_Machine_doOne 2 = .ok (.getfield 35, 3) := by decide +kernel
theorem d_Machine_doOne_5 : decode b_Machine_doOne 5 = .ok (.iconst 1, 1) := by decide +kernel
theorem d_Machine_doOne_6 : decode b_Machine_doOne 6 = .ok (.iadd, 1) := by decide +kernel
theorem d_Machine_doOne_7 : decode b_Machine_doOne 7 = .ok (.putfield 35, 3) := by decide +kernel
theorem d_Machine_doOne_10 : decode b_Machine_doOne 10 = .ok (.iload_n 1, 1) := by decide +kernel
theorem d_Machine_doOne_11 : decode b_Machine_doOne 11 = .ok (.tableswitch 79 14 18 #[33, 40, 54, 59, 77], 33) := by decide +kernel
theorem d_Machine_doOne_44 : decode b_Machine_doOne 44 = .ok (.aload_n 0, 1) := by decide +kernel
theorem d_Machine_doOne_45 : decode b_Machine_doOne 45 = .ok (.iload_n 2, 1) := by decide +kernel
theorem d_Machine_doOne_46 : decode b_Machine_doOne 46 = .ok (.putfield 35, 3) := by decide +kernel
theorem d_Machine_doOne_49 : decode b_Machine_doOne 49 = .ok (.iconst 3, 1) := by decide +kernel
theorem d_Machine_doOne_50 : decode b_Machine_doOne 50 = .ok (.ireturn, 1) := by decide +kernel
theorem d_Machine_doOne_51 : decode b_Machine_doOne 51 = .ok (.aload_n 0, 1) := by decide +kernel
theorem d_Machine_doOne_52 : decode b_Machine_doOne 52 = .ok (.invokevirtual 73, 3) := by decide +kernel
theorem d_Machine_doOne_55 : decode b_Machine_doOne 55 = .ok (.ifCond .ne 8, 3) := by decide +kernel
theorem d_Machine_doOne_58 : decode b_Machine_doOne 58 = .ok (.aload_n 0, 1) := by decide +kernel
theorem d_Machine_doOne_59 : decode b_Machine_doOne 59 = .ok (.iload_n 2, 1) := by decide +kernel
theorem d_Machine_doOne_60 : decode b_Machine_doOne 60 = .ok (.putfield 35, 3) := by decide +kernel
theorem d_Machine_doOne_63 : decode b_Machine_doOne 63 = .ok (.iconst 3, 1) := by decide +kernel
theorem d_Machine_doOne_64 : decode b_Machine_doOne 64 = .ok (.ireturn, 1) := by decide +kernel
theorem d_Machine_doOne_65 : decode b_Machine_doOne 65 = .ok (.aload_n 0, 1) := by decide +kernel
theorem d_Machine_doOne_66 : decode b_Machine_doOne 66 = .ok (.invokevirtual 77, 3) := by decide +kernel
theorem d_Machine_doOne_69 : decode b_Machine_doOne 69 = .ok (.ireturn, 1) := by decide +kernel
theorem d_Machine_doOne_70 : decode b_Machine_doOne 70 = .ok (.aload_n 0, 1) := by decide +kernel
theorem d_Machine_doOne_71 : decode b_Machine_doOne 71 = .ok (.iload_n 3, 1) := by decide +kernel
theorem d_Machine_doOne_72 : decode b_Machine_doOne 72 = .ok (.ifCond .ne 7, 3) := by decide +kernel
theorem d_Machine_doOne_75 : decode b_Machine_doOne 75 = .ok (.iconst 0, 1) := by decide +kernel
theorem d_Machine_doOne_76 : decode b_Machine_doOne 76 = .ok (.goto 7, 3) := by decide +kernel
theorem d_Machine_doOne_79 : decode b_Machine_doOne 79 = .ok (.aload_n 0, 1) := by decide +kernel
theorem d_Machine_doOne_80 : decode b_Machine_doOne 80 = .ok (.invokevirtual 73, 3) := by decide +kernel
theorem d_Machine_doOne_83 : decode b_Machine_doOne 83 = .ok (.putfield 70, 3) := by decide +kernel
theorem d_Machine_doOne_86 : decode b_Machine_doOne 86 = .ok (.iconst 0, 1) := by decide +kernel
theorem d_Machine_doOne_87 : decode b_Machine_doOne 87 = .ok (.ireturn, 1) := by decide +kernel
theorem d_Machine_doOne_88 : decode b_Machine_doOne 88 = .ok (.iconst 1, 1) := by decide +kernel
theorem d_Machine_doOne_89 : decode b_Machine_doOne 89 = .ok (.ireturn, 1) := by decide +kernel
theorem d_Machine_doOne_90 : decode b_Machine_doOne 90 = .ok (.aload_n 0, 1) := by decide +kernel
theorem d_Machine_doOne_91 : decode b_Machine_doOne 91 = .ok (.iload_n 1, 1) := by decide +kernel
theorem d_Machine_doOne_92 : decode b_Machine_doOne 92 = .ok (.iload_n 2, 1) := by decide +kernel
theorem d_Machine_doOne_93 : decode b_Machine_doOne 93 = .ok (.invokevirtual 80, 3) := by decide +kernel
theorem d_Machine_doOne_96 : decode b_Machine_doOne 96 = .ok (.iconst 3, 1) := by decide +kernel
theorem d_Machine_doOne_97 : decode b_Machine_doOne 97 = .ok (.ireturn, 1) := by decide +kernel
theorem d_Machine_move_0 : decode b_Machine_move 0 = .ok (.iload_n 1, 1) := by decide +kernel
theorem d_Machine_move_1 : decode b_Machine_move 1 = .ok (.tableswitch 149 0 6 #[43, 51, 66, 81, 104, 122, 96], 43) := by decide +kernel
theorem d_Machine_move_44 : decode b_Machine_move 44 = .ok (.aload_n 0, 1) := by decide +kernel
theorem d_Machine_move_45 : decode b_Machine_move 45 = .ok (.iload_n 2, 1) := by decide +kernel
theorem d_Machine_move_46 : decode b_Machine_move 46 = .ok (.invokevirtual 84, 3) := by decide +kernel
theorem d_Machine_move_49 : decode b_Machine_move 49 = .ok (.goto 125, 3) := by decide +kernel
theorem d_Machine_move_52 : decode b_Machine_move 52 = .ok (.aload_n 0, 1) := by decide +kernel
theorem d_Machine_move_53 : decode b_Machine_move 53 = .ok (.aload_n 0, 1) := by decide +kernel
theorem d_Machine_move_54 : decode b_Machine_move 54 = .ok (.getfield 18, 3) := by decide +kernel
theorem d_Machine_move_57 : decode b_Machine_move 57 = .ok (.iload_n 2, 1) := by decide +kernel
theorem d_Machine_move_58 : decode b_Machine_move 58 = .ok (.invokestatic 88, 3) := by decide +kernel
theorem d_Machine_move_61 : decode b_Machine_move 61 = .ok (.invokevirtual 84, 3) := by decide +kernel
theorem d_Machine_move_64 : decode b_Machine_move 64 = .ok (.goto 110, 3) := by decide +kernel
theorem d_Machine_move_67 : decode b_Machine_move 67 = .ok (.aload_n 0, 1) := by decide +kernel
theorem d_Machine_move_68 : decode b_Machine_move 68 = .ok (.aload_n 0, 1) := by decide +kernel
theorem d_Machine_move_69 : decode b_Machine_move 69 = .ok (.getfield 21, 3) := by decide +kernel
theorem d_Machine_move_72 : decode b_Machine_move 72 = .ok (.iload_n 2, 1) := by decide +kernel
theorem d_Machine_move_73 : decode b_Machine_move 73 = .ok (.invokestatic 88, 3) := by decide +kernel
theorem d_Machine_move_76 : decode b_Machine_move 76 = .ok (.invokevirtual 84, 3) := by decide +kernel
theorem d_Machine_move_79 : decode b_Machine_move 79 = .ok (.goto 95, 3) := by decide +kernel
theorem d_Machine_move_82 : decode b_Machine_move 82 = .ok (.aload_n 0, 1) := by decide +kernel
theorem d_Machine_move_83 : decode b_Machine_move 83 = .ok (.getfield 21, 3) := by decide +kernel
theorem d_Machine_move_86 : decode b_Machine_move 86 = .ok (.iload_n 2, 1) := by decide +kernel
theorem d_Machine_move_87 : decode b_Machine_move 87 = .ok (.aload_n 0, 1) := by decide +kernel
theorem d_Machine_move_88 : decode b_Machine_move 88 = .ok (.invokevirtual 73, 3) := by decide +kernel
theorem d_Machine_move_91 : decode b_Machine_move 91 = .ok (.invokestatic 57, 3) := by decide +kernel
theorem d_Machine_move_94 : decode b_Machine_move 94 = .ok (.goto 80, 3) := by decide +kernel
theorem d_Machine_move_97 : decode b_Machine_move 97 = .ok (.aload_n 0, 1) := by decide +kernel
theorem d_Machine_move_98 : decode b_Machine_move 98 = .ok (.invokevirtual 73, 3) := by decide +kernel
theorem d_Machine_move_101 : decode b_Machine_move 101 = .ok (.pop, 1) := by decide +kernel
theorem d_Machine_move_102 : decode b_Machine_move 102 = .ok (.goto 72, 3) := by decide +kernel
theorem d_Machine_move_105 : decode b_Machine_move 105 = .ok (.aload_n 0, 1) := by decide +kernel
theorem d_Machine_move_106 : decode b_Machine_move 106 = .ok (.invokevirtual 73, 3) := by decide +kernel
theorem d_Machine_move_109 : decode b_Machine_move 109 = .ok (.istore_n 3, 1) := by decide +kernel
theorem d_Machine_move_110 : decode b_Machine_move 110 = .ok (.aload_n 0, 1) := by decide +kernel
theorem d_Machine_move_111 : decode b_Machine_move 111 = .ok (.iload_n 3, 1) := by decide +kernel
theorem d_Machine_move_112 : decode b_Machine_move 112 = .ok (.invokevirtual 84, 3) := by decide +kernel
theorem d_Machine_move_115 : decode b_Machine_move 115 = .ok (.aload_n 0, 1) := by decide +kernel
theorem d_Machine_move_116 : decode b_Machine_move 116 = .ok (.iload_n 3, 1) := by decide +kernel
theorem d_Machine_move_117 : decode b_Machine_move 117 = .ok (.invokevirtual 84, 3) := by decide +kernel
theorem d_Machine_move_120 : decode b_Machine_move 120 = .ok (.goto 54, 3) := by decide +kernel
theorem d_Machine_move_123 : decode b_Machine_move 123 = .ok (.aload_n 0, 1) := by decide +kernel
theorem d_Machine_move_124 : decode b_Machine_move 124 = .ok (.invokevirtual 73, 3) := by decide +kernel
theorem d_Machine_move_127 : decode b_Machine_move 127 = .ok (.istore 4, 2) := by decide +kernel
theorem d_Machine_move_129 : decode b_Machine_move 129 = .ok (.aload_n 0, 1) := by decide +kernel
theorem d_Machine_move_130 : decode b_Machine_move 130 = .ok (.invokevirtual 73, 3) := by decide +kernel
theorem d_Machine_move_133 : decode b_Machine_move 133 = .ok (.istore 5, 2) := by decide +kernel
theorem d_Machine_move_135 : decode b_Machine_move 135 = .ok (.aload_n 0, 1) := by decide +kernel
theorem d_Machine_move_136 : decode b_Machine_move 136 = .ok (.iload 4, 2) := by decide +kernel
theorem d_Machine_move_138 : decode b_Machine_move 138 = .ok (.invokevirtual 84, 3) := by decide +kernel
theorem d_Machine_move_141 : decode b_Machine_move 141 = .ok (.aload_n 0, 1) := by decide +kernel
theorem d_Machine_move_142 : decode b_Machine_move 142 = .ok (.iload 5, 2) := by decide +kernel
theorem d_Machine_move_144 : decode b_Machine_move 144 = .ok (.invokevirtual 84, 3) := by decide +kernel
theorem d_Machine_move_147 : decode b_Machine_move 147 = .ok (.goto 27, 3) := by decide +kernel
theorem d_Machine_move_150 : decode b_Machine_move 150 = .ok (.aload_n 0, 1) := by decide +kernel
theorem d_Machine_move_151 : decode b_Machine_move 151 = .ok (.invokevirtual 73, 3) := by decide +kernel
theorem d_Machine_move_154 : decode b_Machine_move 154 = .ok (.istore 6, 2) := by decide +kernel
theorem d_Machine_move_156 : decode b_Machine_move 156 = .ok (.aload_n 0, 1) := by decide +kernel
theorem d_Machine_move_157 : decode b_Machine_move 157 = .ok (.invokevirtual 73, 3) := by decide +kernel
theorem d_Machine_move_160 : decode b_Machine_move 160 = .ok (.istore 7, 2) := by decide +kernel
theorem d_Machine_move_162 : decode b_Machine_move 162 = .ok (.aload_n 0, 1) := by decide +kernel
theorem d_Machine_move_163 : decode b_Machine_move 163 = .ok (.iload_n 1, 1) := by decide +kernel
theorem d_Machine_move_164 : decode b_Machine_move 164 = .ok (.iload 7, 2) := by decide +kernel
theorem d_Machine_move_166 : decode b_Machine_move 166 = .ok (.iload 6, 2) := by decide +kernel
theorem d_Machine_move_168 : decode b_Machine_move 168 = .ok (.invokestatic 92, 3) := by decide +kernel
theorem d_Machine_move_171 : decode b_Machine_move 171 = .ok (.invokevirtual 84, 3) := by decide +kernel
theorem d_Machine_move_174 : decode b_Machine_move 174 = .ok (.return_, 1) := by decide +kernel
theorem d_Machine_combine_0 : decode b_Machine_combine 0 = .ok (.iload_n 0, 1) := by decide +kernel
theorem d_Machine_combine_1 : decode b_Machine_combine 1 = .ok (.tableswitch 86 7 12 #[39, 43, 47, 51, 63, 75], 39) := by decide +kernel
theorem d_Machine_combine_40 : decode b_Machine_combine 40 = .ok (.iload_n 1, 1) := by decide +kernel
theorem d_Machine_combine_41 : decode b_Machine_combine 41 = .ok (.iload_n 2, 1) := by decide +kernel
theorem d_Machine_combine_42 : decode b_Machine_combine 42 = .ok (.iadd, 1) := by decide +kernel
theorem d_Machine_combine_43 : decode b_Machine_combine 43 = .ok (.ireturn, 1) := by decide +kernel
theorem d_Machine_combine_44 : decode b_Machine_combine 44 = .ok (.iload_n 1, 1) := by decide +kernel
theorem d_Machine_combine_45 : decode b_Machine_combine 45 = .ok (.iload_n 2, 1) := by decide +kernel
theorem d_Machine_combine_46 : decode b_Machine_combine 46 = .ok (.isub, 1) := by decide +kernel
theorem d_Machine_combine_47 : decode b_Machine_combine 47 = .ok (.ireturn, 1) := by decide +kernel
theorem d_Machine_combine_48 : decode b_Machine_combine 48 = .ok (.iload_n 1, 1) := by decide +kernel
theorem d_Machine_combine_49 : decode b_Machine_combine 49 = .ok (.iload_n 2, 1) := by decide +kernel
theorem d_Machine_combine_50 : decode b_Machine_combine 50 = .ok (.imul, 1) := by decide +kernel
theorem d_Machine_combine_51 : decode b_Machine_combine 51 = .ok (.ireturn, 1) := by decide +kernel
theorem d_Machine_combine_52 : decode b_Machine_combine 52 = .ok (.iload_n 2, 1) := by decide +kernel
theorem d_Machine_combine_53 : decode b_Machine_combine 53 = .ok (.ifCond .ne 7, 3) := by decide +kernel
theorem d_Machine_combine_56 : decode b_Machine_combine 56 = .ok (.iconst 0, 1) := by decide +kernel
theorem d_Machine_combine_57 : decode b_Machine_combine 57 = .ok (.goto 6, 3) := by decide +kernel
theorem d_Machine_combine_60 : decode b_Machine_combine 60 = .ok (.iload_n 1, 1) := by decide +kernel
theorem d_Machine_combine_61 : decode b_Machine_combine 61 = .ok (.iload_n 2, 1) := by decide +kernel
theorem d_Machine_combine_62 : decode b_Machine_combine 62 = .ok (.idiv, 1) := by decide +kernel
theorem d_Machine_combine_63 : decode b_Machine_combine 63 = .ok (.ireturn, 1) := by decide +kernel
theorem d_Machine_combine_64 : decode b_Machine_combine 64 = .ok (.iload_n 2, 1) := by decide +kernel
theorem d_Machine_combine_65 : decode b_Machine_combine 65 = .ok (.ifCond .ne 7, 3) := by decide +kernel
theorem d_Machine_combine_68 : decode b_Machine_combine 68 = .ok (.iconst 0, 1) := by decide +kernel
theorem d_Machine_combine_69 : decode b_Machine_combine 69 = .ok (.goto 6, 3) := by decide +kernel
theorem d_Machine_combine_72 : decode b_Machine_combine 72 = .ok (.iload_n 1, 1) := by decide +kernel
theorem d_Machine_combine_73 : decode b_Machine_combine 73 = .ok (.iload_n 2, 1) := by decide +kernel
theorem d_Machine_combine_74 : decode b_Machine_combine 74 = .ok (.irem, 1) := by decide +kernel
theorem d_Machine_combine_75 : decode b_Machine_combine 75 = .ok (.ireturn, 1) := by decide +kernel
theorem d_Machine_combine_76 : decode b_Machine_combine 76 = .ok (.iload_n 1, 1) := by decide +kernel
theorem d_Machine_combine_77 : decode b_Machine_combine 77 = .ok (.iload_n 2, 1) := by decide +kernel
theorem d_Machine_combine_78 : decode b_Machine_combine 78 = .ok (.if_icmp .ge 7, 3) := by decide +kernel
theorem d_Machine_combine_81 : decode b_Machine_combine 81 = .ok (.iconst 1, 1) := by decide +kernel
theorem d_Machine_combine_82 : decode b_Machine_combine 82 = .ok (.goto 4, 3) := by decide +kernel
theorem d_Machine_combine_85 : decode b_Machine_combine 85 = .ok (.iconst 0, 1) := by decide +kernel
theorem d_Machine_combine_86 : decode b_Machine_combine 86 = .ok (.ireturn, 1) := by decide +kernel
theorem d_Machine_combine_87 : decode b_Machine_combine 87 = .ok (.iload_n 1, 1) := by decide +kernel
theorem d_Machine_combine_88 : decode b_Machine_combine 88 = .ok (.iload_n 2, 1) := by decide +kernel
theorem d_Machine_combine_89 : decode b_Machine_combine 89 = .ok (.if_icmp .ne 7, 3) := by decide +kernel
theorem d_Machine_combine_92 : decode b_Machine_combine 92 = .ok (.iconst 1, 1) := by decide +kernel
theorem d_Machine_combine_93 : decode b_Machine_combine 93 = .ok (.goto 4, 3) := by decide +kernel
theorem d_Machine_combine_96 : decode b_Machine_combine 96 = .ok (.iconst 0, 1) := by decide +kernel
theorem d_Machine_combine_97 : decode b_Machine_combine 97 = .ok (.ireturn, 1) := by decide +kernel
theorem d_Machine_emit_0 : decode b_Machine_emit 0 = .ok (.aload_n 0, 1) := by decide +kernel
theorem d_Machine_emit_1 : decode b_Machine_emit 1 = .ok (.getfield 54, 3) := by decide +kernel
theorem d_Machine_emit_4 : decode b_Machine_emit 4 = .ok (.bipush 20, 2) := by decide +kernel
theorem d_Machine_emit_6 : decode b_Machine_emit 6 = .ok (.if_icmp .lt 5, 3) := by decide +kernel
theorem d_Machine_emit_9 : decode b_Machine_emit 9 = .ok (.iconst 2, 1) := by decide +kernel
theorem d_Machine_emit_10 : decode b_Machine_emit 10 = .ok (.ireturn, 1) := by decide +kernel
theorem d_Machine_emit_11 : decode b_Machine_emit 11 = .ok (.aload_n 0, 1) := by decide +kernel
theorem d_Machine_emit_12 : decode b_Machine_emit 12 = .ok (.getfield 15, 3) := by decide +kernel
theorem d_Machine_emit_15 : decode b_Machine_emit 15 = .ok (.aload_n 0, 1) := by decide +kernel
theorem d_Machine_emit_16 : decode b_Machine_emit 16 = .ok (.getfield 54, 3) := by decide +kernel
theorem d_Machine_emit_19 : decode b_Machine_emit 19 = .ok (.aload_n 0, 1) := by decide +kernel
theorem d_Machine_emit_20 : decode b_Machine_emit 20 = .ok (.invokevirtual 73, 3) := by decide +kernel
theorem d_Machine_emit_23 : decode b_Machine_emit 23 = .ok (.invokestatic 57, 3) := by decide +kernel
theorem d_Machine_emit_26 : decode b_Machine_emit 26 = .ok (.aload_n 0, 1) := by decide +kernel
theorem d_Machine_emit_27 : decode b_Machine_emit 27 = .ok (.getfield 9, 3) := by decide +kernel
theorem d_Machine_emit_30 : decode b_Machine_emit 30 = .ok (.aload_n 0, 1) := by decide +kernel
theorem d_Machine_emit_31 : decode b_Machine_emit 31 = .ok (.getfield 54, 3) := by decide +kernel
theorem d_Machine_emit_34 : decode b_Machine_emit 34 = .ok (.aload_n 0, 1) := by decide +kernel
theorem d_Machine_emit_35 : decode b_Machine_emit 35 = .ok (.invokevirtual 73, 3) := by decide +kernel
theorem d_Machine_emit_38 : decode b_Machine_emit 38 = .ok (.invokestatic 57, 3) := by decide +kernel
theorem d_Machine_emit_41 : decode b_Machine_emit 41 = .ok (.aload_n 0, 1) := by decide +kernel
theorem d_Machine_emit_42 : decode b_Machine_emit 42 = .ok (.dup, 1) := by decide +kernel
theorem d_Machine_emit_43 : decode b_Machine_emit 43 = .ok (.getfield 54, 3) := by decide +kernel
theorem d_Machine_emit_46 : decode b_Machine_emit 46 = .ok (.iconst 1, 1) := by decide +kernel
theorem d_Machine_emit_47 : decode b_Machine_emit 47 = .ok (.iadd, 1) := by decide +kernel
theorem d_Machine_emit_48 : decode b_Machine_emit 48 = .ok (.putfield 54, 3) := by decide +kernel
theorem d_Machine_emit_51 : decode b_Machine_emit 51 = .ok (.iconst 3, 1) := by decide +kernel
theorem d_Machine_emit_52 : decode b_Machine_emit 52 = .ok (.ireturn, 1) := by decide +kernel
theorem d_Machine_push_0 : decode b_Machine_push 0 = .ok (.aload_n 0, 1) := by decide +kernel
theorem d_Machine_push_1 : decode b_Machine_push 1 = .ok (.getfield 24, 3) := by decide +kernel
theorem d_Machine_push_4 : decode b_Machine_push 4 = .ok (.aload_n 0, 1) := by decide +kernel
theorem d_Machine_push_5 : decode b_Machine_push 5 = .ok (.getfield 67, 3) := by decide +kernel
theorem d_Machine_push_8 : decode b_Machine_push 8 = .ok (.iload_n 1, 1) := by decide +kernel
theorem d_Machine_push_9 : decode b_Machine_push 9 = .ok (.invokestatic 57, 3) := by decide +kernel
theorem d_Machine_push_12 : decode b_Machine_push 12 = .ok (.aload_n 0, 1) := by decide +kernel
theorem d_Machine_push_13 : decode b_Machine_push 13 = .ok (.dup, 1) := by decide +kernel
theorem d_Machine_push_14 : decode b_Machine_push 14 = .ok (.getfield 67, 3) := by decide +kernel
theorem d_Machine_push_17 : decode b_Machine_push 17 = .ok (.iconst 1, 1) := by decide +kernel
theorem d_Machine_push_18 : decode b_Machine_push 18 = .ok (.iadd, 1) := by decide +kernel
theorem d_Machine_push_19 : decode b_Machine_push 19 = .ok (.putfield 67, 3) := by decide +kernel
theorem d_Machine_push_22 : decode b_Machine_push 22 = .ok (.return_, 1) := by decide +kernel
theorem d_Machine_pop_0 : decode b_Machine_pop 0 = .ok (.aload_n 0, 1) := by decide +kernel
theorem d_Machine_pop_1 : decode b_Machine_pop 1 = .ok (.dup, 1) := by decide +kernel
theorem d_Machine_pop_2 : decode b_Machine_pop 2 = .ok (.getfield 67, 3) := by decide +kernel
theorem d_Machine_pop_5 : decode b_Machine_pop 5 = .ok (.iconst 1, 1) := by decide +kernel
theorem d_Machine_pop_6 : decode b_Machine_pop 6 = .ok (.isub, 1) := by decide +kernel
theorem d_Machine_pop_7 : decode b_Machine_pop 7 = .ok (.putfield 67, 3) := by decide +kernel
theorem d_Machine_pop_10 : decode b_Machine_pop 10 = .ok (.aload_n 0, 1) := by decide +kernel
theorem d_Machine_pop_11 : decode b_Machine_pop 11 = .ok (.getfield 24, 3) := by decide +kernel
theorem d_Machine_pop_14 : decode b_Machine_pop 14 = .ok (.aload_n 0, 1) := by decide +kernel
theorem d_Machine_pop_15 : decode b_Machine_pop 15 = .ok (.getfield 67, 3) := by decide +kernel
theorem d_Machine_pop_18 : decode b_Machine_pop 18 = .ok (.invokestatic 88, 3) := by decide +kernel
theorem d_Machine_pop_21 : decode b_Machine_pop 21 = .ok (.ireturn, 1) := by decide +kernel
theorem d_Op_isOf_0 : decode b_Op_isOf 0 = .ok (.iload_n 0, 1) := by decide +kernel
theorem d_Op_isOf_1 : decode b_Op_isOf 1 = .ok (.bipush 16, 2) := by decide +kernel
theorem d_Op_isOf_3 : decode b_Op_isOf 3 = .ok (.if_icmp .ne 13, 3) := by decide +kernel
theorem d_Op_isOf_6 : decode b_Op_isOf 6 = .ok (.iload_n 1, 1) := by decide +kernel
theorem d_Op_isOf_7 : decode b_Op_isOf 7 = .ok (.ifCond .ne 7, 3) := by decide +kernel
theorem d_Op_isOf_10 : decode b_Op_isOf 10 = .ok (.iconst 1, 1) := by decide +kernel
theorem d_Op_isOf_11 : decode b_Op_isOf 11 = .ok (.goto 4, 3) := by decide +kernel
theorem d_Op_isOf_14 : decode b_Op_isOf 14 = .ok (.iconst 0, 1) := by decide +kernel
theorem d_Op_isOf_15 : decode b_Op_isOf 15 = .ok (.ireturn, 1) := by decide +kernel
theorem d_Op_isOf_16 : decode b_Op_isOf 16 = .ok (.iload_n 0, 1) := by decide +kernel
theorem d_Op_isOf_17 : decode b_Op_isOf 17 = .ok (.bipush 18, 2) := by decide +kernel
theorem d_Op_isOf_19 : decode b_Op_isOf 19 = .ok (.if_icmp .ne 14, 3) := by decide +kernel
theorem d_Op_isOf_22 : decode b_Op_isOf 22 = .ok (.iload_n 1, 1) := by decide +kernel
theorem d_Op_isOf_23 : decode b_Op_isOf 23 = .ok (.iconst 3, 1) := by decide +kernel
theorem d_Op_isOf_24 : decode b_Op_isOf 24 = .ok (.if_icmp .ne 7, 3) := by decide +kernel
theorem d_Op_isOf_27 : decode b_Op_isOf 27 = .ok (.iconst 1, 1) := by decide +kernel
theorem d_Op_isOf_28 : decode b_Op_isOf 28 = .ok (.goto 4, 3) := by decide +kernel
theorem d_Op_isOf_31 : decode b_Op_isOf 31 = .ok (.iconst 0, 1) := by decide +kernel
theorem d_Op_isOf_32 : decode b_Op_isOf 32 = .ok (.ireturn, 1) := by decide +kernel
theorem d_Op_isOf_33 : decode b_Op_isOf 33 = .ok (.iload_n 0, 1) := by decide +kernel
theorem d_Op_isOf_34 : decode b_Op_isOf 34 = .ok (.ifCond .lt 13, 3) := by decide +kernel
theorem d_Op_isOf_37 : decode b_Op_isOf 37 = .ok (.iload_n 0, 1) := by decide +kernel
theorem d_Op_isOf_38 : decode b_Op_isOf 38 = .ok (.bipush 17, 2) := by decide +kernel
theorem d_Op_isOf_40 : decode b_Op_isOf 40 = .ok (.if_icmp .gt 7, 3) := by decide +kernel
theorem d_Op_isOf_43 : decode b_Op_isOf 43 = .ok (.iconst 1, 1) := by decide +kernel
theorem d_Op_isOf_44 : decode b_Op_isOf 44 = .ok (.goto 4, 3) := by decide +kernel
theorem d_Op_isOf_47 : decode b_Op_isOf 47 = .ok (.iconst 0, 1) := by decide +kernel
theorem d_Op_isOf_48 : decode b_Op_isOf 48 = .ok (.ireturn, 1) := by decide +kernel
theorem d_Op_needs_0 : decode b_Op_needs 0 = .ok (.iload_n 0, 1) := by decide +kernel
theorem d_Op_needs_1 : decode b_Op_needs 1 = .ok (.bipush 17, 2) := by decide +kernel
theorem d_Op_needs_3 : decode b_Op_needs 3 = .ok (.if_icmp .ne 11, 3) := by decide +kernel
theorem d_Op_needs_6 : decode b_Op_needs 6 = .ok (.iload_n 1, 1) := by decide +kernel
theorem d_Op_needs_7 : decode b_Op_needs 7 = .ok (.ifCond .ne 7, 3) := by decide +kernel
theorem d_Op_needs_10 : decode b_Op_needs 10 = .ok (.iconst 0, 1) := by decide +kernel
theorem d_Op_needs_11 : decode b_Op_needs 11 = .ok (.goto 10, 3) := by decide +kernel
theorem d_Op_needs_14 : decode b_Op_needs 14 = .ok (.getstatic 11, 3) := by decide +kernel
theorem d_Op_needs_17 : decode b_Op_needs 17 = .ok (.iload_n 0, 1) := by decide +kernel
theorem d_Op_needs_18 : decode b_Op_needs 18 = .ok (.invokestatic 15, 3) := by decide +kernel
theorem d_Op_needs_21 : decode b_Op_needs 21 = .ok (.ireturn, 1) := by decide +kernel
theorem d_Op_growth_0 : decode b_Op_growth 0 = .ok (.getstatic 21, 3) := by decide +kernel
theorem d_Op_growth_3 : decode b_Op_growth 3 = .ok (.iload_n 0, 1) := by decide +kernel
theorem d_Op_growth_4 : decode b_Op_growth 4 = .ok (.invokestatic 15, 3) := by decide +kernel
theorem d_Op_growth_7 : decode b_Op_growth 7 = .ok (.ireturn, 1) := by decide +kernel
theorem d_Op_jumps_0 : decode b_Op_jumps 0 = .ok (.iload_n 0, 1) := by decide +kernel
theorem d_Op_jumps_1 : decode b_Op_jumps 1 = .ok (.bipush 14, 2) := by decide +kernel
theorem d_Op_jumps_3 : decode b_Op_jumps 3 = .ok (.if_icmp .eq 9, 3) := by decide +kernel
theorem d_Op_jumps_6 : decode b_Op_jumps 6 = .ok (.iload_n 0, 1) := by decide +kernel
theorem d_Op_jumps_7 : decode b_Op_jumps 7 = .ok (.bipush 15, 2) := by decide +kernel
theorem d_Op_jumps_9 : decode b_Op_jumps 9 = .ok (.if_icmp .ne 7, 3) := by decide +kernel
theorem d_Op_jumps_12 : decode b_Op_jumps 12 = .ok (.iconst 1, 1) := by decide +kernel
theorem d_Op_jumps_13 : decode b_Op_jumps 13 = .ok (.goto 4, 3) := by decide +kernel
theorem d_Op_jumps_16 : decode b_Op_jumps 16 = .ok (.iconst 0, 1) := by decide +kernel
theorem d_Op_jumps_17 : decode b_Op_jumps 17 = .ok (.ireturn, 1) := by decide +kernel
theorem d_Op_hasNext_0 : decode b_Op_hasNext 0 = .ok (.iload_n 0, 1) := by decide +kernel
theorem d_Op_hasNext_1 : decode b_Op_hasNext 1 = .ok (.bipush 14, 2) := by decide +kernel
theorem d_Op_hasNext_3 : decode b_Op_hasNext 3 = .ok (.if_icmp .eq 19, 3) := by decide +kernel
theorem d_Op_hasNext_6 : decode b_Op_hasNext 6 = .ok (.iload_n 0, 1) := by decide +kernel
theorem d_Op_hasNext_7 : decode b_Op_hasNext 7 = .ok (.bipush 17, 2) := by decide +kernel
theorem d_Op_hasNext_9 : decode b_Op_hasNext 9 = .ok (.if_icmp .eq 13, 3) := by decide +kernel
theorem d_Op_hasNext_12 : decode b_Op_hasNext 12 = .ok (.iload_n 0, 1) := by decide +kernel
theorem d_Op_hasNext_13 : decode b_Op_hasNext 13 = .ok (.bipush 18, 2) := by decide +kernel
theorem d_Op_hasNext_15 : decode b_Op_hasNext 15 = .ok (.if_icmp .eq 7, 3) := by decide +kernel
theorem d_Op_hasNext_18 : decode b_Op_hasNext 18 = .ok (.iconst 1, 1) := by decide +kernel
theorem d_Op_hasNext_19 : decode b_Op_hasNext 19 = .ok (.goto 4, 3) := by decide +kernel
theorem d_Op_hasNext_22 : decode b_Op_hasNext 22 = .ok (.iconst 0, 1) := by decide +kernel
theorem d_Op_hasNext_23 : decode b_Op_hasNext 23 = .ok (.ireturn, 1) := by decide +kernel
theorem d_Program_init_0 : decode b_Program_init 0 = .ok (.aload_n 0, 1) := by decide +kernel
theorem d_Program_init_1 : decode b_Program_init 1 = .ok (.invokespecial 3, 3) := by decide +kernel
theorem d_Program_init_4 : decode b_Program_init 4 = .ok (.aload_n 0, 1) := by decide +kernel
theorem d_Program_init_5 : decode b_Program_init 5 = .ok (.bipush 64, 2) := by decide +kernel
theorem d_Program_init_7 : decode b_Program_init 7 = .ok (.newarray .int, 2) := by decide +kernel
theorem d_Program_init_9 : decode b_Program_init 9 = .ok (.putfield 9, 3) := by decide +kernel
theorem d_Program_init_12 : decode b_Program_init 12 = .ok (.aload_n 0, 1) := by decide +kernel
theorem d_Program_init_13 : decode b_Program_init 13 = .ok (.bipush 64, 2) := by decide +kernel
theorem d_Program_init_15 : decode b_Program_init 15 = .ok (.newarray .int, 2) := by decide +kernel
theorem d_Program_init_17 : decode b_Program_init 17 = .ok (.putfield 15, 3) := by decide +kernel
theorem d_Program_init_20 : decode b_Program_init 20 = .ok (.aload_n 0, 1) := by decide +kernel
theorem d_Program_init_21 : decode b_Program_init 21 = .ok (.iload_n 1, 1) := by decide +kernel
theorem d_Program_init_22 : decode b_Program_init 22 = .ok (.putfield 18, 3) := by decide +kernel
theorem d_Program_init_25 : decode b_Program_init 25 = .ok (.aload_n 0, 1) := by decide +kernel
theorem d_Program_init_26 : decode b_Program_init 26 = .ok (.iload_n 1, 1) := by decide +kernel
theorem d_Program_init_27 : decode b_Program_init 27 = .ok (.iconst 1, 1) := by decide +kernel
theorem d_Program_init_28 : decode b_Program_init 28 = .ok (.if_icmp .eq 8, 3) := by decide +kernel
theorem d_Program_init_31 : decode b_Program_init 31 = .ok (.iload_n 1, 1) := by decide +kernel
theorem d_Program_init_32 : decode b_Program_init 32 = .ok (.iconst 2, 1) := by decide +kernel
theorem d_Program_init_33 : decode b_Program_init 33 = .ok (.if_icmp .ne 7, 3) := by decide +kernel
theorem d_Program_init_36 : decode b_Program_init 36 = .ok (.iconst 3, 1) := by decide +kernel
theorem d_Program_init_37 : decode b_Program_init 37 = .ok (.goto 4, 3) := by decide +kernel
theorem d_Program_init_40 : decode b_Program_init 40 = .ok (.iconst 2, 1) := by decide +kernel
theorem d_Program_init_41 : decode b_Program_init 41 = .ok (.putfield 24, 3) := by decide +kernel
theorem d_Program_init_44 : decode b_Program_init 44 = .ok (.return_, 1) := by decide +kernel
theorem d_Program_append_0 : decode b_Program_append 0 = .ok (.aload_n 0, 1) := by decide +kernel
theorem d_Program_append_1 : decode b_Program_append 1 = .ok (.getfield 27, 3) := by decide +kernel
theorem d_Program_append_4 : decode b_Program_append 4 = .ok (.bipush 64, 2) := by decide +kernel
theorem d_Program_append_6 : decode b_Program_append 6 = .ok (.if_icmp .lt 5, 3) := by decide +kernel
theorem d_Program_append_9 : decode b_Program_append 9 = .ok (.iconst 0, 1) := by decide +kernel
theorem d_Program_append_10 : decode b_Program_append 10 = .ok (.ireturn, 1) := by decide +kernel
theorem d_Program_append_11 : decode b_Program_append 11 = .ok (.aload_n 0, 1) := by decide +kernel
theorem d_Program_append_12 : decode b_Program_append 12 = .ok (.getfield 9, 3) := by decide +kernel
theorem d_Program_append_15 : decode b_Program_append 15 = .ok (.aload_n 0, 1) := by decide +kernel
theorem d_Program_append_16 : decode b_Program_append 16 = .ok (.getfield 27, 3) := by decide +kernel
theorem d_Program_append_19 : decode b_Program_append 19 = .ok (.iload_n 1, 1) := by decide +kernel
theorem d_Program_append_20 : decode b_Program_append 20 = .ok (.invokestatic 30, 3) := by decide +kernel
theorem d_Program_append_23 : decode b_Program_append 23 = .ok (.aload_n 0, 1) := by decide +kernel
theorem d_Program_append_24 : decode b_Program_append 24 = .ok (.getfield 15, 3) := by decide +kernel
theorem d_Program_append_27 : decode b_Program_append 27 = .ok (.aload_n 0, 1) := by decide +kernel
theorem d_Program_append_28 : decode b_Program_append 28 = .ok (.getfield 27, 3) := by decide +kernel
theorem d_Program_append_31 : decode b_Program_append 31 = .ok (.iload_n 2, 1) := by decide +kernel
theorem d_Program_append_32 : decode b_Program_append 32 = .ok (.invokestatic 30, 3) := by decide +kernel
theorem d_Program_append_35 : decode b_Program_append 35 = .ok (.aload_n 0, 1) := by decide +kernel
theorem d_Program_append_36 : decode b_Program_append 36 = .ok (.dup, 1) := by decide +kernel
theorem d_Program_append_37 : decode b_Program_append 37 = .ok (.getfield 27, 3) := by decide +kernel
theorem d_Program_append_40 : decode b_Program_append 40 = .ok (.iconst 1, 1) := by decide +kernel
theorem d_Program_append_41 : decode b_Program_append 41 = .ok (.iadd, 1) := by decide +kernel
theorem d_Program_append_42 : decode b_Program_append 42 = .ok (.putfield 27, 3) := by decide +kernel
theorem d_Program_append_45 : decode b_Program_append 45 = .ok (.iconst 1, 1) := by decide +kernel
theorem d_Program_append_46 : decode b_Program_append 46 = .ok (.ireturn, 1) := by decide +kernel
theorem d_Program_keepFirst_0 : decode b_Program_keepFirst 0 = .ok (.aload_n 0, 1) := by decide +kernel
theorem d_Program_keepFirst_1 : decode b_Program_keepFirst 1 = .ok (.iload_n 1, 1) := by decide +kernel
theorem d_Program_keepFirst_2 : decode b_Program_keepFirst 2 = .ok (.putfield 27, 3) := by decide +kernel
theorem d_Program_keepFirst_5 : decode b_Program_keepFirst 5 = .ok (.return_, 1) := by decide +kernel
theorem d_Program_has_0 : decode b_Program_has 0 = .ok (.iload_n 1, 1) := by decide +kernel
theorem d_Program_has_1 : decode b_Program_has 1 = .ok (.ifCond .lt 15, 3) := by decide +kernel
theorem d_Program_has_4 : decode b_Program_has 4 = .ok (.iload_n 1, 1) := by decide +kernel
theorem d_Program_has_5 : decode b_Program_has 5 = .ok (.aload_n 0, 1) := by decide +kernel
theorem d_Program_has_6 : decode b_Program_has 6 = .ok (.getfield 27, 3) := by decide +kernel
theorem d_Program_has_9 : decode b_Program_has 9 = .ok (.if_icmp .ge 7, 3) := by decide +kernel
theorem d_Program_has_12 : decode b_Program_has 12 = .ok (.iconst 1, 1) := by decide +kernel
theorem d_Program_has_13 : decode b_Program_has 13 = .ok (.goto 4, 3) := by decide +kernel
theorem d_Program_has_16 : decode b_Program_has 16 = .ok (.iconst 0, 1) := by decide +kernel
theorem d_Program_has_17 : decode b_Program_has 17 = .ok (.ireturn, 1) := by decide +kernel
theorem d_Program_opAt_0 : decode b_Program_opAt 0 = .ok (.aload_n 0, 1) := by decide +kernel
theorem d_Program_opAt_1 : decode b_Program_opAt 1 = .ok (.getfield 9, 3) := by decide +kernel
theorem d_Program_opAt_4 : decode b_Program_opAt 4 = .ok (.iload_n 1, 1) := by decide +kernel
theorem d_Program_opAt_5 : decode b_Program_opAt 5 = .ok (.invokestatic 34, 3) := by decide +kernel
theorem d_Program_opAt_8 : decode b_Program_opAt 8 = .ok (.ireturn, 1) := by decide +kernel
theorem d_Program_nAt_0 : decode b_Program_nAt 0 = .ok (.aload_n 0, 1) := by decide +kernel
theorem d_Program_nAt_1 : decode b_Program_nAt 1 = .ok (.getfield 15, 3) := by decide +kernel
theorem d_Program_nAt_4 : decode b_Program_nAt 4 = .ok (.iload_n 1, 1) := by decide +kernel
theorem d_Program_nAt_5 : decode b_Program_nAt 5 = .ok (.invokestatic 34, 3) := by decide +kernel
theorem d_Program_nAt_8 : decode b_Program_nAt 8 = .ok (.ireturn, 1) := by decide +kernel
theorem d_Program_isWellFormed_0 : decode b_Program_isWellFormed 0 = .ok (.aload_n 0, 1) := by decide +kernel
theorem d_Program_isWellFormed_1 : decode b_Program_isWellFormed 1 = .ok (.getfield 9, 3) := by decide +kernel
theorem d_Program_isWellFormed_4 : decode b_Program_isWellFormed 4 = .ok (.iload_n 1, 1) := by decide +kernel
theorem d_Program_isWellFormed_5 : decode b_Program_isWellFormed 5 = .ok (.invokestatic 34, 3) := by decide +kernel
theorem d_Program_isWellFormed_8 : decode b_Program_isWellFormed 8 = .ok (.istore_n 2, 1) := by decide +kernel
theorem d_Program_isWellFormed_9 : decode b_Program_isWellFormed 9 = .ok (.aload_n 0, 1) := by decide +kernel
theorem d_Program_isWellFormed_10 : decode b_Program_isWellFormed 10 = .ok (.getfield 15, 3) := by decide +kernel
theorem d_Program_isWellFormed_13 : decode b_Program_isWellFormed 13 = .ok (.iload_n 1, 1) := by decide +kernel
theorem d_Program_isWellFormed_14 : decode b_Program_isWellFormed 14 = .ok (.invokestatic 34, 3) := by decide +kernel
theorem d_Program_isWellFormed_17 : decode b_Program_isWellFormed 17 = .ok (.istore_n 3, 1) := by decide +kernel
theorem d_Program_isWellFormed_18 : decode b_Program_isWellFormed 18 = .ok (.aload_n 0, 1) := by decide +kernel
theorem d_Program_isWellFormed_19 : decode b_Program_isWellFormed 19 = .ok (.iload_n 2, 1) := by decide +kernel
theorem d_Program_isWellFormed_20 : decode b_Program_isWellFormed 20 = .ok (.invokevirtual 38, 3) := by decide +kernel
theorem d_Program_isWellFormed_23 : decode b_Program_isWellFormed 23 = .ok (.istore 4, 2) := by decide +kernel
theorem d_Program_isWellFormed_25 : decode b_Program_isWellFormed 25 = .ok (.iload_n 2, 1) := by decide +kernel
theorem d_Program_isWellFormed_26 : decode b_Program_isWellFormed 26 = .ok (.aload_n 0, 1) := by decide +kernel
theorem d_Program_isWellFormed_27 : decode b_Program_isWellFormed 27 = .ok (.getfield 18, 3) := by decide +kernel
theorem d_Program_isWellFormed_30 : decode b_Program_isWellFormed 30 = .ok (.invokestatic 42, 3) := by decide +kernel
theorem d_Program_isWellFormed_33 : decode b_Program_isWellFormed 33 = .ok (.ifCond .eq 23, 3) := by decide +kernel
theorem d_Program_isWellFormed_36 : decode b_Program_isWellFormed 36 = .ok (.iload 4, 2) := by decide +kernel
theorem d_Program_isWellFormed_38 : decode b_Program_isWellFormed 38 = .ok (.iconst (-1), 1) := by decide +kernel
theorem d_Program_isWellFormed_39 : decode b_Program_isWellFormed 39 = .ok (.if_icmp .eq 13, 3) := by decide +kernel
theorem d_Program_isWellFormed_42 : decode b_Program_isWellFormed 42 = .ok (.iload_n 3, 1) := by decide +kernel
theorem d_Program_isWellFormed_43 : decode b_Program_isWellFormed 43 = .ok (.ifCond .lt 13, 3) := by decide +kernel
theorem d_Program_isWellFormed_46 : decode b_Program_isWellFormed 46 = .ok (.iload_n 3, 1) := by decide +kernel
theorem d_Program_isWellFormed_47 : decode b_Program_isWellFormed 47 = .ok (.iload 4, 2) := by decide +kernel
theorem d_Program_isWellFormed_49 : decode b_Program_isWellFormed 49 = .ok (.if_icmp .ge 7, 3) := by decide +kernel
theorem d_Program_isWellFormed_52 : decode b_Program_isWellFormed 52 = .ok (.iconst 1, 1) := by decide +kernel
theorem d_Program_isWellFormed_53 : decode b_Program_isWellFormed 53 = .ok (.goto 4, 3) := by decide +kernel
theorem d_Program_isWellFormed_56 : decode b_Program_isWellFormed 56 = .ok (.iconst 0, 1) := by decide +kernel
theorem d_Program_isWellFormed_57 : decode b_Program_isWellFormed 57 = .ok (.ireturn, 1) := by decide +kernel
theorem d_Program_limitOfN_0 : decode b_Program_limitOfN 0 = .ok (.iload_n 1, 1) := by decide +kernel
theorem d_Program_limitOfN_1 : decode b_Program_limitOfN 1 = .ok (.tableswitch 87 1 15 #[75, 80, 80, 87, 87, 87, 87, 87, 87, 87, 87, 87, 87, 82, 82], 75) := by decide +kernel
theorem d_Program_limitOfN_76 : decode b_Program_limitOfN 76 = .ok (.aload_n 0, 1) := by decide +kernel
theorem d_Program_limitOfN_77 : decode b_Program_limitOfN 77 = .ok (.getfield 24, 3) := by decide +kernel
theorem d_Program_limitOfN_80 : decode b_Program_limitOfN 80 = .ok (.ireturn, 1) := by decide +kernel
theorem d_Program_limitOfN_81 : decode b_Program_limitOfN 81 = .ok (.iconst 4, 1) := by decide +kernel
theorem d_Program_limitOfN_82 : decode b_Program_limitOfN 82 = .ok (.ireturn, 1) := by decide +kernel
theorem d_Program_limitOfN_83 : decode b_Program_limitOfN 83 = .ok (.aload_n 0, 1) := by decide +kernel
theorem d_Program_limitOfN_84 : decode b_Program_limitOfN 84 = .ok (.getfield 27, 3) := by decide +kernel
theorem d_Program_limitOfN_87 : decode b_Program_limitOfN 87 = .ok (.ireturn, 1) := by decide +kernel
theorem d_Program_limitOfN_88 : decode b_Program_limitOfN 88 = .ok (.iconst (-1), 1) := by decide +kernel
theorem d_Program_limitOfN_89 : decode b_Program_limitOfN 89 = .ok (.ireturn, 1) := by decide +kernel
theorem d_Program_canBeDone_0 : decode b_Program_canBeDone 0 = .ok (.aload_n 0, 1) := by decide +kernel
theorem d_Program_canBeDone_1 : decode b_Program_canBeDone 1 = .ok (.iload_n 1, 1) := by decide +kernel
theorem d_Program_canBeDone_2 : decode b_Program_canBeDone 2 = .ok (.invokevirtual 48, 3) := by decide +kernel
theorem d_Program_canBeDone_5 : decode b_Program_canBeDone 5 = .ok (.istore_n 3, 1) := by decide +kernel
theorem d_Program_canBeDone_6 : decode b_Program_canBeDone 6 = .ok (.aload_n 0, 1) := by decide +kernel
theorem d_Program_canBeDone_7 : decode b_Program_canBeDone 7 = .ok (.iload_n 1, 1) := by decide +kernel
theorem d_Program_canBeDone_8 : decode b_Program_canBeDone 8 = .ok (.invokevirtual 51, 3) := by decide +kernel
theorem d_Program_canBeDone_11 : decode b_Program_canBeDone 11 = .ok (.ifCond .eq 20, 3) := by decide +kernel
theorem d_Program_canBeDone_14 : decode b_Program_canBeDone 14 = .ok (.iload_n 3, 1) := by decide +kernel
theorem d_Program_canBeDone_15 : decode b_Program_canBeDone 15 = .ok (.invokestatic 55, 3) := by decide +kernel
theorem d_Program_canBeDone_18 : decode b_Program_canBeDone 18 = .ok (.ifCond .eq 15, 3) := by decide +kernel
theorem d_Program_canBeDone_21 : decode b_Program_canBeDone 21 = .ok (.aload_n 0, 1) := by decide +kernel
theorem d_Program_canBeDone_22 : decode b_Program_canBeDone 22 = .ok (.iload_n 1, 1) := by decide +kernel
theorem d_Program_canBeDone_23 : decode b_Program_canBeDone 23 = .ok (.iconst 1, 1) := by decide +kernel
theorem d_Program_canBeDone_24 : decode b_Program_canBeDone 24 = .ok (.iadd, 1) := by decide +kernel
theorem d_Program_canBeDone_25 : decode b_Program_canBeDone 25 = .ok (.invokevirtual 58, 3) := by decide +kernel
theorem d_Program_canBeDone_28 : decode b_Program_canBeDone 28 = .ok (.ifCond .ne 5, 3) := by decide +kernel
theorem d_Program_canBeDone_31 : decode b_Program_canBeDone 31 = .ok (.iconst 0, 1) := by decide +kernel
theorem d_Program_canBeDone_32 : decode b_Program_canBeDone 32 = .ok (.ireturn, 1) := by decide +kernel
theorem d_Program_canBeDone_33 : decode b_Program_canBeDone 33 = .ok (.iload_n 2, 1) := by decide +kernel
theorem d_Program_canBeDone_34 : decode b_Program_canBeDone 34 = .ok (.iload_n 3, 1) := by decide +kernel
theorem d_Program_canBeDone_35 : decode b_Program_canBeDone 35 = .ok (.aload_n 0, 1) := by decide +kernel
theorem d_Program_canBeDone_36 : decode b_Program_canBeDone 36 = .ok (.getfield 18, 3) := by decide +kernel
theorem d_Program_canBeDone_39 : decode b_Program_canBeDone 39 = .ok (.invokestatic 61, 3) := by decide +kernel
theorem d_Program_canBeDone_42 : decode b_Program_canBeDone 42 = .ok (.if_icmp .lt 18, 3) := by decide +kernel
theorem d_Program_canBeDone_45 : decode b_Program_canBeDone 45 = .ok (.iload_n 2, 1) := by decide +kernel
theorem d_Program_canBeDone_46 : decode b_Program_canBeDone 46 = .ok (.iload_n 3, 1) := by decide +kernel
theorem d_Program_canBeDone_47 : decode b_Program_canBeDone 47 = .ok (.invokestatic 65, 3) := by decide +kernel
theorem d_Program_canBeDone_50 : decode b_Program_canBeDone 50 = .ok (.iadd, 1) := by decide +kernel
theorem d_Program_canBeDone_51 : decode b_Program_canBeDone 51 = .ok (.bipush 8, 2) := by decide +kernel
theorem d_Program_canBeDone_53 : decode b_Program_canBeDone 53 = .ok (.if_icmp .gt 7, 3) := by decide +kernel
theorem d_Program_canBeDone_56 : decode b_Program_canBeDone 56 = .ok (.iconst 1, 1) := by decide +kernel
theorem d_Program_canBeDone_57 : decode b_Program_canBeDone 57 = .ok (.goto 4, 3) := by decide +kernel
theorem d_Program_canBeDone_60 : decode b_Program_canBeDone 60 = .ok (.iconst 0, 1) := by decide +kernel
theorem d_Program_canBeDone_61 : decode b_Program_canBeDone 61 = .ok (.ireturn, 1) := by decide +kernel
theorem d_Ways_init_0 : decode b_Ways_init 0 = .ok (.aload_n 0, 1) := by decide +kernel
theorem d_Ways_init_1 : decode b_Ways_init 1 = .ok (.invokespecial 3, 3) := by decide +kernel
theorem d_Ways_init_4 : decode b_Ways_init 4 = .ok (.aload_n 0, 1) := by decide +kernel
theorem d_Ways_init_5 : decode b_Ways_init 5 = .ok (.bipush 64, 2) := by decide +kernel
theorem d_Ways_init_7 : decode b_Ways_init 7 = .ok (.newarray .int, 2) := by decide +kernel
theorem d_Ways_init_9 : decode b_Ways_init 9 = .ok (.putfield 9, 3) := by decide +kernel
theorem d_Ways_init_12 : decode b_Ways_init 12 = .ok (.aload_n 0, 1) := by decide +kernel
theorem d_Ways_init_13 : decode b_Ways_init 13 = .ok (.sipush 576, 3) := by decide +kernel
theorem d_Ways_init_16 : decode b_Ways_init 16 = .ok (.newarray .int, 2) := by decide +kernel
theorem d_Ways_init_18 : decode b_Ways_init 18 = .ok (.putfield 15, 3) := by decide +kernel
theorem d_Ways_init_21 : decode b_Ways_init 21 = .ok (.return_, 1) := by decide +kernel
theorem d_Ways_follow_0 : decode b_Ways_follow 0 = .ok (.aload_n 0, 1) := by decide +kernel
theorem d_Ways_follow_1 : decode b_Ways_follow 1 = .ok (.getfield 9, 3) := by decide +kernel
theorem d_Ways_follow_4 : decode b_Ways_follow 4 = .ok (.iconst 0, 1) := by decide +kernel
theorem d_Ways_follow_5 : decode b_Ways_follow 5 = .ok (.invokestatic 18, 3) := by decide +kernel
theorem d_Ways_follow_8 : decode b_Ways_follow 8 = .ok (.aload_n 0, 1) := by decide +kernel
theorem d_Ways_follow_9 : decode b_Ways_follow 9 = .ok (.iconst 0, 1) := by decide +kernel
theorem d_Ways_follow_10 : decode b_Ways_follow 10 = .ok (.putfield 24, 3) := by decide +kernel
theorem d_Ways_follow_13 : decode b_Ways_follow 13 = .ok (.aload_n 0, 1) := by decide +kernel
theorem d_Ways_follow_14 : decode b_Ways_follow 14 = .ok (.aload_n 1, 1) := by decide +kernel
theorem d_Ways_follow_15 : decode b_Ways_follow 15 = .ok (.iconst 0, 1) := by decide +kernel
theorem d_Ways_follow_16 : decode b_Ways_follow 16 = .ok (.iconst 0, 1) := by decide +kernel
theorem d_Ways_follow_17 : decode b_Ways_follow 17 = .ok (.invokevirtual 28, 3) := by decide +kernel
theorem d_Ways_follow_20 : decode b_Ways_follow 20 = .ok (.iconst 0, 1) := by decide +kernel
theorem d_Ways_follow_21 : decode b_Ways_follow 21 = .ok (.istore_n 2, 1) := by decide +kernel
theorem d_Ways_follow_22 : decode b_Ways_follow 22 = .ok (.iload_n 2, 1) := by decide +kernel
theorem d_Ways_follow_23 : decode b_Ways_follow 23 = .ok (.aload_n 0, 1) := by decide +kernel
theorem d_Ways_follow_24 : decode b_Ways_follow 24 = .ok (.getfield 15, 3) := by decide +kernel
theorem d_Ways_follow_27 : decode b_Ways_follow 27 = .ok (.arraylength, 1) := by decide +kernel
theorem d_Ways_follow_28 : decode b_Ways_follow 28 = .ok (.if_icmp .ge 39, 3) := by decide +kernel
theorem d_Ways_follow_31 : decode b_Ways_follow 31 = .ok (.iload_n 2, 1) := by decide +kernel
theorem d_Ways_follow_32 : decode b_Ways_follow 32 = .ok (.aload_n 0, 1) := by decide +kernel
theorem d_Ways_follow_33 : decode b_Ways_follow 33 = .ok (.getfield 24, 3) := by decide +kernel
theorem d_Ways_follow_36 : decode b_Ways_follow 36 = .ok (.if_icmp .ge 31, 3) := by decide +kernel
theorem d_Ways_follow_39 : decode b_Ways_follow 39 = .ok (.aload_n 0, 1) := by decide +kernel
theorem d_Ways_follow_40 : decode b_Ways_follow 40 = .ok (.getfield 15, 3) := by decide +kernel
theorem d_Ways_follow_43 : decode b_Ways_follow 43 = .ok (.iload_n 2, 1) := by decide +kernel
theorem d_Ways_follow_44 : decode b_Ways_follow 44 = .ok (.invokestatic 32, 3) := by decide +kernel
theorem d_Ways_follow_47 : decode b_Ways_follow 47 = .ok (.istore_n 3, 1) := by decide +kernel
theorem d_Ways_follow_48 : decode b_Ways_follow 48 = .ok (.aload_n 0, 1) := by decide +kernel
theorem d_Ways_follow_49 : decode b_Ways_follow 49 = .ok (.aload_n 1, 1) := by decide +kernel
theorem d_Ways_follow_50 : decode b_Ways_follow 50 = .ok (.iload_n 3, 1) := by decide +kernel
theorem d_Ways_follow_51 : decode b_Ways_follow 51 = .ok (.bipush 9, 2) := by decide +kernel
theorem d_Ways_follow_53 : decode b_Ways_follow 53 = .ok (.idiv, 1) := by decide +kernel
theorem d_Ways_follow_54 : decode b_Ways_follow 54 = .ok (.iload_n 3, 1) := by decide +kernel
theorem d_Ways_follow_55 : decode b_Ways_follow 55 = .ok (.bipush 9, 2) := by decide +kernel
theorem d_Ways_follow_57 : decode b_Ways_follow 57 = .ok (.irem, 1) := by decide +kernel
theorem d_Ways_follow_58 : decode b_Ways_follow 58 = .ok (.invokevirtual 36, 3) := by decide +kernel
theorem d_Ways_follow_61 : decode b_Ways_follow 61 = .ok (.iinc 2 1, 3) := by decide +kernel
theorem d_Ways_follow_64 : decode b_Ways_follow 64 = .ok (.goto (-42), 3) := by decide +kernel
theorem d_Ways_follow_67 : decode b_Ways_follow 67 = .ok (.return_, 1) := by decide +kernel
theorem d_Ways_goOn_0 : decode b_Ways_goOn 0 = .ok (.aload_n 1, 1) := by decide +kernel
theorem d_Ways_goOn_1 : decode b_Ways_goOn 1 = .ok (.iload_n 2, 1) := by decide +kernel
theorem d_Ways_goOn_2 : decode b_Ways_goOn 2 = .ok (.iload_n 3, 1) := by decide +kernel
theorem d_Ways_goOn_3 : decode b_Ways_goOn 3 = .ok (.invokevirtual 39, 3) := by decide +kernel
theorem d_Ways_goOn_6 : decode b_Ways_goOn 6 = .ok (.ifCond .ne 4, 3) := by decide +kernel
theorem d_Ways_goOn_9 : decode b_Ways_goOn 9 = .ok (.return_, 1) := by decide +kernel
theorem d_Ways_goOn_10 : decode b_Ways_goOn 10 = .ok (.aload_n 1, 1) := by decide +kernel
theorem d_Ways_goOn_11 : decode b_Ways_goOn 11 = .ok (.iload_n 2, 1) := by decide +kernel
theorem d_Ways_goOn_12 : decode b_Ways_goOn 12 = .ok (.invokevirtual 45, 3) := by decide +kernel
theorem d_Ways_goOn_15 : decode b_Ways_goOn 15 = .ok (.istore 4, 2) := by decide +kernel
theorem d_Ways_goOn_17 : decode b_Ways_goOn 17 = .ok (.iload_n 3, 1) := by decide +kernel
theorem d_Ways_goOn_18 : decode b_Ways_goOn 18 = .ok (.iload 4, 2) := by decide +kernel
theorem d_Ways_goOn_20 : decode b_Ways_goOn 20 = .ok (.invokestatic 49, 3) := by decide +kernel
theorem d_Ways_goOn_23 : decode b_Ways_goOn 23 = .ok (.iadd, 1) := by decide +kernel
theorem d_Ways_goOn_24 : decode b_Ways_goOn 24 = .ok (.istore 5, 2) := by decide +kernel
theorem d_Ways_goOn_26 : decode b_Ways_goOn 26 = .ok (.iload 4, 2) := by decide +kernel
theorem d_Ways_goOn_28 : decode b_Ways_goOn 28 = .ok (.invokestatic 54, 3) := by decide +kernel
theorem d_Ways_goOn_31 : decode b_Ways_goOn 31 = .ok (.ifCond .eq 13, 3) := by decide +kernel
theorem d_Ways_goOn_34 : decode b_Ways_goOn 34 = .ok (.aload_n 0, 1) := by decide +kernel
theorem d_Ways_goOn_35 : decode b_Ways_goOn 35 = .ok (.aload_n 1, 1) := by decide +kernel
theorem d_Ways_goOn_36 : decode b_Ways_goOn 36 = .ok (.iload_n 2, 1) := by decide +kernel
theorem d_Ways_goOn_37 : decode b_Ways_goOn 37 = .ok (.iconst 1, 1) := by decide +kernel
theorem d_Ways_goOn_38 : decode b_Ways_goOn 38 = .ok (.iadd, 1) := by decide +kernel
theorem d_Ways_goOn_39 : decode b_Ways_goOn 39 = .ok (.iload 5, 2) := by decide +kernel
theorem d_Ways_goOn_41 : decode b_Ways_goOn 41 = .ok (.invokevirtual 28, 3) := by decide +kernel
theorem d_Ways_goOn_44 : decode b_Ways_goOn 44 = .ok (.iload 4, 2) := by decide +kernel
theorem d_Ways_goOn_46 : decode b_Ways_goOn 46 = .ok (.invokestatic 58, 3) := by decide +kernel
theorem d_Ways_goOn_49 : decode b_Ways_goOn 49 = .ok (.ifCond .eq 15, 3) := by decide +kernel
theorem d_Ways_goOn_52 : decode b_Ways_goOn 52 = .ok (.aload_n 0, 1) := by decide +kernel
theorem d_Ways_goOn_53 : decode b_Ways_goOn 53 = .ok (.aload_n 1, 1) := by decide +kernel
theorem d_Ways_goOn_54 : decode b_Ways_goOn 54 = .ok (.aload_n 1, 1) := by decide +kernel
theorem d_Ways_goOn_55 : decode b_Ways_goOn 55 = .ok (.iload_n 2, 1) := by decide +kernel
theorem d_Ways_goOn_56 : decode b_Ways_goOn 56 = .ok (.invokevirtual 61, 3) := by decide +kernel
theorem d_Ways_goOn_59 : decode b_Ways_goOn 59 = .ok (.iload 5, 2) := by decide +kernel
theorem d_Ways_goOn_61 : decode b_Ways_goOn 61 = .ok (.invokevirtual 28, 3) := by decide +kernel
theorem d_Ways_goOn_64 : decode b_Ways_goOn 64 = .ok (.return_, 1) := by decide +kernel
theorem d_Ways_reach_0 : decode b_Ways_reach 0 = .ok (.aload_n 1, 1) := by decide +kernel
theorem d_Ways_reach_1 : decode b_Ways_reach 1 = .ok (.iload_n 2, 1) := by decide +kernel
theorem d_Ways_reach_2 : decode b_Ways_reach 2 = .ok (.invokevirtual 64, 3) := by decide +kernel
theorem d_Ways_reach_5 : decode b_Ways_reach 5 = .ok (.ifCond .eq 12, 3) := by decide +kernel
theorem d_Ways_reach_8 : decode b_Ways_reach 8 = .ok (.aload_n 0, 1) := by decide +kernel
theorem d_Ways_reach_9 : decode b_Ways_reach 9 = .ok (.iload_n 2, 1) := by decide +kernel
theorem d_Ways_reach_10 : decode b_Ways_reach 10 = .ok (.iload_n 3, 1) := by decide +kernel
theorem d_Ways_reach_11 : decode b_Ways_reach 11 = .ok (.invokevirtual 67, 3) := by decide +kernel
theorem d_Ways_reach_14 : decode b_Ways_reach 14 = .ok (.ifCond .eq 4, 3) := by decide +kernel
theorem d_Ways_reach_17 : decode b_Ways_reach 17 = .ok (.return_, 1) := by decide +kernel
theorem d_Ways_reach_18 : decode b_Ways_reach 18 = .ok (.aload_n 0, 1) := by decide +kernel
theorem d_Ways_reach_19 : decode b_Ways_reach 19 = .ok (.getfield 9, 3) := by decide +kernel
theorem d_Ways_reach_22 : decode b_Ways_reach 22 = .ok (.iload_n 2, 1) := by decide +kernel
theorem d_Ways_reach_23 : decode b_Ways_reach 23 = .ok (.aload_n 0, 1) := by decide +kernel
theorem d_Ways_reach_24 : decode b_Ways_reach 24 = .ok (.getfield 9, 3) := by decide +kernel
theorem d_Ways_reach_27 : decode b_Ways_reach 27 = .ok (.iload_n 2, 1) := by decide +kernel
theorem d_Ways_reach_28 : decode b_Ways_reach 28 = .ok (.invokestatic 32, 3) := by decide +kernel
theorem d_Ways_reach_31 : decode b_Ways_reach 31 = .ok (.iconst 1, 1) := by decide +kernel
theorem d_Ways_reach_32 : decode b_Ways_reach 32 = .ok (.iload_n 3, 1) := by decide +kernel
theorem d_Ways_reach_33 : decode b_Ways_reach 33 = .ok (.ishl, 1) := by decide +kernel
theorem d_Ways_reach_34 : decode b_Ways_reach 34 = .ok (.ior, 1) := by decide +kernel
theorem d_Ways_reach_35 : decode b_Ways_reach 35 = .ok (.invokestatic 70, 3) := by decide +kernel
theorem d_Ways_reach_38 : decode b_Ways_reach 38 = .ok (.aload_n 0, 1) := by decide +kernel
theorem d_Ways_reach_39 : decode b_Ways_reach 39 = .ok (.getfield 15, 3) := by decide +kernel
theorem d_Ways_reach_42 : decode b_Ways_reach 42 = .ok (.aload_n 0, 1) := by decide +kernel
theorem d_Ways_reach_43 : decode b_Ways_reach 43 = .ok (.getfield 24, 3) := by decide +kernel
theorem d_Ways_reach_46 : decode b_Ways_reach 46 = .ok (.iload_n 2, 1) := by decide +kernel
theorem d_Ways_reach_47 : decode b_Ways_reach 47 = .ok (.bipush 9, 2) := by decide +kernel
theorem d_Ways_reach_49 : decode b_Ways_reach 49 = .ok (.imul, 1) := by decide +kernel
theorem d_Ways_reach_50 : decode b_Ways_reach 50 = .ok (.iload_n 3, 1) := by decide +kernel
theorem d_Ways_reach_51 : decode b_Ways_reach 51 = .ok (.iadd, 1) := by decide +kernel
theorem d_Ways_reach_52 : decode b_Ways_reach 52 = .ok (.invokestatic 70, 3) := by decide +kernel
theorem d_Ways_reach_55 : decode b_Ways_reach 55 = .ok (.aload_n 0, 1) := by decide +kernel
theorem d_Ways_reach_56 : decode b_Ways_reach 56 = .ok (.dup, 1) := by decide +kernel
theorem d_Ways_reach_57 : decode b_Ways_reach 57 = .ok (.getfield 24, 3) := by decide +kernel
theorem d_Ways_reach_60 : decode b_Ways_reach 60 = .ok (.iconst 1, 1) := by decide +kernel
theorem d_Ways_reach_61 : decode b_Ways_reach 61 = .ok (.iadd, 1) := by decide +kernel
theorem d_Ways_reach_62 : decode b_Ways_reach 62 = .ok (.putfield 24, 3) := by decide +kernel
theorem d_Ways_reach_65 : decode b_Ways_reach 65 = .ok (.return_, 1) := by decide +kernel
theorem d_Ways_isReached_0 : decode b_Ways_isReached 0 = .ok (.aload_n 0, 1) := by decide +kernel
theorem d_Ways_isReached_1 : decode b_Ways_isReached 1 = .ok (.getfield 9, 3) := by decide +kernel
theorem d_Ways_isReached_4 : decode b_Ways_isReached 4 = .ok (.iload_n 1, 1) := by decide +kernel
theorem d_Ways_isReached_5 : decode b_Ways_isReached 5 = .ok (.invokestatic 32, 3) := by decide +kernel
theorem d_Ways_isReached_8 : decode b_Ways_isReached 8 = .ok (.iload_n 2, 1) := by decide +kernel
theorem d_Ways_isReached_9 : decode b_Ways_isReached 9 = .ok (.ishr, 1) := by decide +kernel
theorem d_Ways_isReached_10 : decode b_Ways_isReached 10 = .ok (.iconst 1, 1) := by decide +kernel
theorem d_Ways_isReached_11 : decode b_Ways_isReached 11 = .ok (.iand, 1) := by decide +kernel
theorem d_Ways_isReached_12 : decode b_Ways_isReached 12 = .ok (.ifCond .eq 7, 3) := by decide +kernel
theorem d_Ways_isReached_15 : decode b_Ways_isReached 15 = .ok (.iconst 1, 1) := by decide +kernel
theorem d_Ways_isReached_16 : decode b_Ways_isReached 16 = .ok (.goto 4, 3) := by decide +kernel
theorem d_Ways_isReached_19 : decode b_Ways_isReached 19 = .ok (.iconst 0, 1) := by decide +kernel
theorem d_Ways_isReached_20 : decode b_Ways_isReached 20 = .ok (.ireturn, 1) := by decide +kernel
theorem d_Ways_firstWrong_0 : decode b_Ways_firstWrong 0 = .ok (.iconst 0, 1) := by decide +kernel
theorem d_Ways_firstWrong_1 : decode b_Ways_firstWrong 1 = .ok (.istore_n 2, 1) := by decide +kernel
theorem d_Ways_firstWrong_2 : decode b_Ways_firstWrong 2 = .ok (.iload_n 2, 1) := by decide +kernel
theorem d_Ways_firstWrong_3 : decode b_Ways_firstWrong 3 = .ok (.aload_n 1, 1) := by decide +kernel
theorem d_Ways_firstWrong_4 : decode b_Ways_firstWrong 4 = .ok (.getfield 74, 3) := by decide +kernel
theorem d_Ways_firstWrong_7 : decode b_Ways_firstWrong 7 = .ok (.if_icmp .ge 20, 3) := by decide +kernel
theorem d_Ways_firstWrong_10 : decode b_Ways_firstWrong 10 = .ok (.aload_n 0, 1) := by decide +kernel
theorem d_Ways_firstWrong_11 : decode b_Ways_firstWrong 11 = .ok (.aload_n 1, 1) := by decide +kernel
theorem d_Ways_firstWrong_12 : decode b_Ways_firstWrong 12 = .ok (.iload_n 2, 1) := by decide +kernel
theorem d_Ways_firstWrong_13 : decode b_Ways_firstWrong 13 = .ok (.invokevirtual 77, 3) := by decide +kernel
theorem d_Ways_firstWrong_16 : decode b_Ways_firstWrong 16 = .ok (.ifCond .eq 5, 3) := by decide +kernel
theorem d_Ways_firstWrong_19 : decode b_Ways_firstWrong 19 = .ok (.iload_n 2, 1) := by decide +kernel
theorem d_Ways_firstWrong_20 : decode b_Ways_firstWrong 20 = .ok (.ireturn, 1) := by decide +kernel
theorem d_Ways_firstWrong_21 : decode b_Ways_firstWrong 21 = .ok (.iinc 2 1, 3) := by decide +kernel
theorem d_Ways_firstWrong_24 : decode b_Ways_firstWrong 24 = .ok (.goto (-22), 3) := by decide +kernel
theorem d_Ways_firstWrong_27 : decode b_Ways_firstWrong 27 = .ok (.bipush (-2), 2) := by decide +kernel
theorem d_Ways_firstWrong_29 : decode b_Ways_firstWrong 29 = .ok (.ireturn, 1) := by decide +kernel
theorem d_Ways_isWrong_0 : decode b_Ways_isWrong 0 = .ok (.aload_n 1, 1) := by decide +kernel
theorem d_Ways_isWrong_1 : decode b_Ways_isWrong 1 = .ok (.iload_n 2, 1) := by decide +kernel
theorem d_Ways_isWrong_2 : decode b_Ways_isWrong 2 = .ok (.invokevirtual 81, 3) := by decide +kernel
theorem d_Ways_isWrong_5 : decode b_Ways_isWrong 5 = .ok (.ifCond .eq 18, 3) := by decide +kernel
theorem d_Ways_isWrong_8 : decode b_Ways_isWrong 8 = .ok (.aload_n 0, 1) := by decide +kernel
theorem d_Ways_isWrong_9 : decode b_Ways_isWrong 9 = .ok (.getfield 9, 3) := by decide +kernel
theorem d_Ways_isWrong_12 : decode b_Ways_isWrong 12 = .ok (.iload_n 2, 1) := by decide +kernel
theorem d_Ways_isWrong_13 : decode b_Ways_isWrong 13 = .ok (.invokestatic 32, 3) := by decide +kernel
theorem d_Ways_isWrong_16 : decode b_Ways_isWrong 16 = .ok (.invokestatic 84, 3) := by decide +kernel
theorem d_Ways_isWrong_19 : decode b_Ways_isWrong 19 = .ok (.iconst 1, 1) := by decide +kernel
theorem d_Ways_isWrong_20 : decode b_Ways_isWrong 20 = .ok (.if_icmp .le 5, 3) := by decide +kernel
theorem d_Ways_isWrong_23 : decode b_Ways_isWrong 23 = .ok (.iconst 1, 1) := by decide +kernel
theorem d_Ways_isWrong_24 : decode b_Ways_isWrong 24 = .ok (.ireturn, 1) := by decide +kernel
theorem d_Ways_isWrong_25 : decode b_Ways_isWrong 25 = .ok (.iconst 0, 1) := by decide +kernel
theorem d_Ways_isWrong_26 : decode b_Ways_isWrong 26 = .ok (.istore_n 3, 1) := by decide +kernel
theorem d_Ways_isWrong_27 : decode b_Ways_isWrong 27 = .ok (.iload_n 3, 1) := by decide +kernel
theorem d_Ways_isWrong_28 : decode b_Ways_isWrong 28 = .ok (.bipush 9, 2) := by decide +kernel
theorem d_Ways_isWrong_30 : decode b_Ways_isWrong 30 = .ok (.if_icmp .ge 29, 3) := by decide +kernel
theorem d_Ways_isWrong_33 : decode b_Ways_isWrong 33 = .ok (.aload_n 0, 1) := by decide +kernel
theorem d_Ways_isWrong_34 : decode b_Ways_isWrong 34 = .ok (.iload_n 2, 1) := by decide +kernel
theorem d_Ways_isWrong_35 : decode b_Ways_isWrong 35 = .ok (.iload_n 3, 1) := by decide +kernel
theorem d_Ways_isWrong_36 : decode b_Ways_isWrong 36 = .ok (.invokevirtual 67, 3) := by decide +kernel
theorem d_Ways_isWrong_39 : decode b_Ways_isWrong 39 = .ok (.ifCond .eq 14, 3) := by decide +kernel
theorem d_Ways_isWrong_42 : decode b_Ways_isWrong 42 = .ok (.aload_n 1, 1) := by decide +kernel
theorem d_Ways_isWrong_43 : decode b_Ways_isWrong 43 = .ok (.iload_n 2, 1) := by decide +kernel
theorem d_Ways_isWrong_44 : decode b_Ways_isWrong 44 = .ok (.iload_n 3, 1) := by decide +kernel
theorem d_Ways_isWrong_45 : decode b_Ways_isWrong 45 = .ok (.invokevirtual 39, 3) := by decide +kernel
theorem d_Ways_isWrong_48 : decode b_Ways_isWrong 48 = .ok (.ifCond .ne 5, 3) := by decide +kernel
theorem d_Ways_isWrong_51 : decode b_Ways_isWrong 51 = .ok (.iconst 1, 1) := by decide +kernel
theorem d_Ways_isWrong_52 : decode b_Ways_isWrong 52 = .ok (.ireturn, 1) := by decide +kernel
theorem d_Ways_isWrong_53 : decode b_Ways_isWrong 53 = .ok (.iinc 3 1, 3) := by decide +kernel
theorem d_Ways_isWrong_56 : decode b_Ways_isWrong 56 = .ok (.goto (-29), 3) := by decide +kernel
theorem d_Ways_isWrong_59 : decode b_Ways_isWrong 59 = .ok (.iconst 0, 1) := by decide +kernel
theorem d_Ways_isWrong_60 : decode b_Ways_isWrong 60 = .ok (.ireturn, 1) := by decide +kernel
theorem d_Integer_bitCount_0 : decode b_Integer_bitCount 0 = .ok (.iload_n 0, 1) := by decide +kernel
theorem d_Integer_bitCount_1 : decode b_Integer_bitCount 1 = .ok (.iload_n 0, 1) := by decide +kernel
theorem d_Integer_bitCount_2 : decode b_Integer_bitCount 2 = .ok (.iconst 1, 1) := by decide +kernel
theorem d_Integer_bitCount_3 : decode b_Integer_bitCount 3 = .ok (.iushr, 1) := by decide +kernel
theorem d_Integer_bitCount_4 : decode b_Integer_bitCount 4 = .ok (.ldc_w 265, 3) := by decide +kernel
theorem d_Integer_bitCount_7 : decode b_Integer_bitCount 7 = .ok (.iand, 1) := by decide +kernel
theorem d_Integer_bitCount_8 : decode b_Integer_bitCount 8 = .ok (.isub, 1) := by decide +kernel
theorem d_Integer_bitCount_9 : decode b_Integer_bitCount 9 = .ok (.istore_n 0, 1) := by decide +kernel
theorem d_Integer_bitCount_10 : decode b_Integer_bitCount 10 = .ok (.iload_n 0, 1) := by decide +kernel
theorem d_Integer_bitCount_11 : decode b_Integer_bitCount 11 = .ok (.ldc_w 266, 3) := by decide +kernel
theorem d_Integer_bitCount_14 : decode b_Integer_bitCount 14 = .ok (.iand, 1) := by decide +kernel
theorem d_Integer_bitCount_15 : decode b_Integer_bitCount 15 = .ok (.iload_n 0, 1) := by decide +kernel
theorem d_Integer_bitCount_16 : decode b_Integer_bitCount 16 = .ok (.iconst 2, 1) := by decide +kernel
theorem d_Integer_bitCount_17 : decode b_Integer_bitCount 17 = .ok (.iushr, 1) := by decide +kernel
theorem d_Integer_bitCount_18 : decode b_Integer_bitCount 18 = .ok (.ldc_w 266, 3) := by decide +kernel
theorem d_Integer_bitCount_21 : decode b_Integer_bitCount 21 = .ok (.iand, 1) := by decide +kernel
theorem d_Integer_bitCount_22 : decode b_Integer_bitCount 22 = .ok (.iadd, 1) := by decide +kernel
theorem d_Integer_bitCount_23 : decode b_Integer_bitCount 23 = .ok (.istore_n 0, 1) := by decide +kernel
theorem d_Integer_bitCount_24 : decode b_Integer_bitCount 24 = .ok (.iload_n 0, 1) := by decide +kernel
theorem d_Integer_bitCount_25 : decode b_Integer_bitCount 25 = .ok (.iload_n 0, 1) := by decide +kernel
theorem d_Integer_bitCount_26 : decode b_Integer_bitCount 26 = .ok (.iconst 4, 1) := by decide +kernel
theorem d_Integer_bitCount_27 : decode b_Integer_bitCount 27 = .ok (.iushr, 1) := by decide +kernel
theorem d_Integer_bitCount_28 : decode b_Integer_bitCount 28 = .ok (.iadd, 1) := by decide +kernel
theorem d_Integer_bitCount_29 : decode b_Integer_bitCount 29 = .ok (.ldc_w 267, 3) := by decide +kernel
theorem d_Integer_bitCount_32 : decode b_Integer_bitCount 32 = .ok (.iand, 1) := by decide +kernel
theorem d_Integer_bitCount_33 : decode b_Integer_bitCount 33 = .ok (.istore_n 0, 1) := by decide +kernel
theorem d_Integer_bitCount_34 : decode b_Integer_bitCount 34 = .ok (.iload_n 0, 1) := by decide +kernel
theorem d_Integer_bitCount_35 : decode b_Integer_bitCount 35 = .ok (.iload_n 0, 1) := by decide +kernel
theorem d_Integer_bitCount_36 : decode b_Integer_bitCount 36 = .ok (.bipush 8, 2) := by decide +kernel
theorem d_Integer_bitCount_38 : decode b_Integer_bitCount 38 = .ok (.iushr, 1) := by decide +kernel
theorem d_Integer_bitCount_39 : decode b_Integer_bitCount 39 = .ok (.iadd, 1) := by decide +kernel
theorem d_Integer_bitCount_40 : decode b_Integer_bitCount 40 = .ok (.istore_n 0, 1) := by decide +kernel
theorem d_Integer_bitCount_41 : decode b_Integer_bitCount 41 = .ok (.iload_n 0, 1) := by decide +kernel
theorem d_Integer_bitCount_42 : decode b_Integer_bitCount 42 = .ok (.iload_n 0, 1) := by decide +kernel
theorem d_Integer_bitCount_43 : decode b_Integer_bitCount 43 = .ok (.bipush 16, 2) := by decide +kernel
theorem d_Integer_bitCount_45 : decode b_Integer_bitCount 45 = .ok (.iushr, 1) := by decide +kernel
theorem d_Integer_bitCount_46 : decode b_Integer_bitCount 46 = .ok (.iadd, 1) := by decide +kernel
theorem d_Integer_bitCount_47 : decode b_Integer_bitCount 47 = .ok (.istore_n 0, 1) := by decide +kernel
theorem d_Integer_bitCount_48 : decode b_Integer_bitCount 48 = .ok (.iload_n 0, 1) := by decide +kernel
theorem d_Integer_bitCount_49 : decode b_Integer_bitCount 49 = .ok (.bipush 63, 2) := by decide +kernel
theorem d_Integer_bitCount_51 : decode b_Integer_bitCount 51 = .ok (.iand, 1) := by decide +kernel
theorem d_Integer_bitCount_52 : decode b_Integer_bitCount 52 = .ok (.ireturn, 1) := by decide +kernel
theorem d_Arrays_fill_0 : decode b_Arrays_fill 0 = .ok (.iconst 0, 1) := by decide +kernel
theorem d_Arrays_fill_1 : decode b_Arrays_fill 1 = .ok (.istore_n 2, 1) := by decide +kernel
theorem d_Arrays_fill_2 : decode b_Arrays_fill 2 = .ok (.aload_n 0, 1) := by decide +kernel
theorem d_Arrays_fill_3 : decode b_Arrays_fill 3 = .ok (.arraylength, 1) := by decide +kernel
theorem d_Arrays_fill_4 : decode b_Arrays_fill 4 = .ok (.istore_n 3, 1) := by decide +kernel
theorem d_Arrays_fill_5 : decode b_Arrays_fill 5 = .ok (.iload_n 2, 1) := by decide +kernel
theorem d_Arrays_fill_6 : decode b_Arrays_fill 6 = .ok (.iload_n 3, 1) := by decide +kernel
theorem d_Arrays_fill_7 : decode b_Arrays_fill 7 = .ok (.if_icmp .ge 13, 3) := by decide +kernel
theorem d_Arrays_fill_10 : decode b_Arrays_fill 10 = .ok (.aload_n 0, 1) := by decide +kernel
theorem d_Arrays_fill_11 : decode b_Arrays_fill 11 = .ok (.iload_n 2, 1) := by decide +kernel
theorem d_Arrays_fill_12 : decode b_Arrays_fill 12 = .ok (.iload_n 1, 1) := by decide +kernel
theorem d_Arrays_fill_13 : decode b_Arrays_fill 13 = .ok (.iastore, 1) := by decide +kernel
theorem d_Arrays_fill_14 : decode b_Arrays_fill 14 = .ok (.iinc 2 1, 3) := by decide +kernel
theorem d_Arrays_fill_17 : decode b_Arrays_fill 17 = .ok (.goto (-12), 3) := by decide +kernel
theorem d_Arrays_fill_20 : decode b_Arrays_fill 20 = .ok (.return_, 1) := by decide +kernel
end
section
/-! the ways of a program: what can be reached, in numbers -/
theorem rd_in (f : Nat → Int32) {n j : Nat} (hj : j < n) (hn : n < 2 ^ 31) : rd f n (nI j) = f j := by
  unfold rd
  rw [if_neg (nI_pos (by omega)), if_neg (by rw [nI_leI hn (by omega)]; omega), nI_clamp (by omega)]
theorem wr_in (f : Nat → Int32) {n j : Nat} (hj : j < n) (hn : n < 2 ^ 31) (v : Int32) : wr f n (nI j) v = upd f j v := by
  unfold wr
  rw [if_neg (nI_pos (by omega)), if_neg (by rw [nI_leI hn (by omega)]; omega), nI_clamp (by omega)]
theorem has_in {n k : Nat} (hn : n ≤ 64) (hk : k < n) : p_has (nI n) (nI k) = 1 := by
  unfold p_has
  rw [if_neg (nI_pos (by omega)), if_neg (by rw [nI_leI (by omega) (by omega)]; omega)]
theorem bt_get : ∀ m, m < 512 → ∀ h, h < 9 → (((nI m >>> (nI h &&& 31)) &&& 1 = 0) ↔ m.testBit h = false) := by decide +kernel
theorem bt_set : ∀ m, m < 512 → ∀ h, h < 9 → nI m ||| (1 <<< (nI h &&& 31)) = nI (m ||| 2 ^ h) ∧ m ||| 2 ^ h < 512 := by decide +kernel
theorem fit_h : ∀ o, o < 19 → ∀ h, h < 9 → ¬ nI h < rd tNeeds 19 (nI o) → ¬ 8 < nI h + o_grow (nI o) → (nI h + o_grow (nI o)).toNatClampNeg < 9 ∧ nI h + o_grow (nI o) = nI (nI h + o_grow (nI o)).toNatClampNeg := by decide +kernel
theorem isOf_o {op kd : Int32} (h : ¬ o_isOf op kd = 0) : ∃ o, o < 19 ∧ op = nI o := by
  unfold o_isOf at h
  by_cases h16 : op = 16
  · exact ⟨16, by omega, h16⟩
  by_cases h18 : op = 18
  · exact ⟨18, by omega, h18⟩
  rw [if_neg h16, if_neg h18] at h
  by_cases h0 : op < 0
  · rw [if_pos h0] at h; exact absurd rfl h
  rw [if_neg h0] at h
  by_cases h17 : 17 < op
  · rw [if_pos h17] at h; exact absurd rfl h
  obtain ⟨j, hj, e⟩ := nI_of2 (M := 17) (n := 17) (by decide) h0 (Int32.not_lt.mp h17)
  exact ⟨j, by omega, e⟩
theorem wf_isOf {kd sz ac : Int32} {fo fn : Nat → Int32} {k : Int32} (h : ¬ p_wf kd sz ac fo fn k = 0) : ¬ o_isOf (rd fo 64 k) kd = 0 := by
  intro h1
  unfold p_wf at h
  rw [if_pos h1] at h
  exact h rfl
theorem wf_lim {kd sz ac : Int32} {fo fn : Nat → Int32} {k : Int32} (h : ¬ p_wf kd sz ac fo fn k = 0) (hl : ¬ p_lim ac sz (rd fo 64 k) = -1) : ¬ rd fn 64 k < 0 ∧ ¬ p_lim ac sz (rd fo 64 k) ≤ rd fn 64 k := by
  unfold p_wf at h
  rw [if_neg (wf_isOf (by unfold p_wf; exact h)), if_neg hl] at h
  by_cases h0 : rd fn 64 k < 0
  · rw [if_pos h0] at h; exact absurd rfl h
  rw [if_neg h0] at h
  by_cases h1 : p_lim ac sz (rd fo 64 k) ≤ rd fn 64 k
  · rw [if_pos h1] at h; exact absurd rfl h
  exact ⟨h0, h1⟩
theorem nI_ne_m1 {n : Nat} (h : n < 2 ^ 31) : ¬ nI n = -1 := fun e => by
  have h1 := nI_pos h
  rw [e] at h1
  exact h1 (by decide)
theorem jump_lim {ac sz op : Int32} (h : ¬ o_jump op = 0) : p_lim ac sz op = sz := by
  unfold o_jump at h
  by_cases h14 : op = 14
  · subst h14; rfl
  by_cases h15 : op = 15
  · subst h15; rfl
  rw [if_neg h14, if_neg h15] at h
  exact absurd rfl h
section
variable (kd ac : Int32) (n : Nat) (fo fn : Nat → Int32)
/-- k can be done with height h -/
def cb (k h : Nat) : Prop := ¬ p_cbd kd (nI n) ac fo fn (nI k) (nI h) = 0
/-- k' with h' comes next after k with h -/
def nxt (k h k' h' : Nat) : Prop := k' < n ∧ h' < 9 ∧ nI h + o_grow (fo k) = nI h' ∧ ((¬ o_next (fo k) = 0 ∧ k' = k + 1) ∨ (¬ o_jump (fo k) = 0 ∧ fn k = nI k'))
def clo (S : Nat → Nat → Prop) : Prop := ∀ k h k' h', k < n → h < 9 → S k h → cb kd ac n fo fn k h → nxt n fo fn k h k' h' → S k' h'
def Rch (k h : Nat) : Prop := ∀ S : Nat → Nat → Prop, S 0 0 → clo kd ac n fo fn S → S k h
end
section
variable {kd ac : Int32} {n : Nat} {fo fn : Nat → Int32}
theorem Rch_0 : Rch kd ac n fo fn 0 0 := fun _ h _ => h
theorem Rch_s {k h k' h' : Nat} (hk : k < n) (hh : h < 9) (h1 : Rch kd ac n fo fn k h) (hc : cb kd ac n fo fn k h) (hn : nxt n fo fn k h k' h') : Rch kd ac n fo fn k' h' := fun S h0 hS => hS k h k' h' hk hh (h1 S h0 hS) hc hn
theorem cb_facts (hn : n ≤ 64) {k h : Nat} (hk : k < n) (hh : h < 9) (hc : cb kd ac n fo fn k h) :
    ¬ p_wf kd (nI n) ac fo fn (nI k) = 0 ∧ (∃ h', h' < 9 ∧ nI h + o_grow (fo k) = nI h') ∧ (¬ o_next (fo k) = 0 → k + 1 < n) ∧ (¬ o_jump (fo k) = 0 → ∃ k', k' < n ∧ fn k = nI k') := by
  have e1 : rd fo 64 (nI k) = fo k := rd_in fo (by omega) (by omega)
  have e2 : rd fn 64 (nI k) = fn k := rd_in fn (by omega) (by omega)
  unfold cb p_cbd at hc
  rw [e1] at hc
  by_cases hw : p_wf kd (nI n) ac fo fn (nI k) = 0
  · rw [if_pos hw] at hc; exact absurd rfl hc
  rw [if_neg hw] at hc
  have hf : ¬ p_fit kd (fo k) (nI h) = 0 ∧ (¬ o_next (fo k) = 0 → k + 1 < n) := by
    by_cases hx : o_next (fo k) = 0
    · rw [if_pos hx] at hc
      exact ⟨hc, fun h => absurd hx h⟩
    · rw [if_neg hx] at hc
      by_cases h2 : p_has (nI n) (nI k + 1) = 0
      · rw [if_pos h2] at hc; exact absurd rfl hc
      · rw [if_neg h2] at hc
        refine ⟨hc, fun _ => ?_⟩
        by_cases h3 : k + 1 < n
        · exact h3
        · exfalso
          apply h2
          unfold p_has
          rw [nI_1, if_neg (nI_pos (by omega)), if_pos (by rw [nI_leI (by omega) (by omega)]; omega)]
  refine ⟨hw, ?_, hf.2, fun hj => ?_⟩
  · obtain ⟨o, ho, eo⟩ := isOf_o (wf_isOf hw)
    rw [e1] at eo
    have hf1 := hf.1
    rw [eo] at hf1 ⊢
    unfold p_fit at hf1
    by_cases h1 : nI h < o_needs (nI o) kd
    · rw [if_pos h1] at hf1; exact absurd rfl hf1
    rw [if_neg h1] at hf1
    by_cases h2 : 8 < nI h + o_grow (nI o)
    · rw [if_pos h2] at hf1; exact absurd rfl hf1
    by_cases h17 : o = 17
    · subst h17
      exact ⟨h, hh, by show nI h + 0 = nI h; exact Int32.add_zero _⟩
    · have h3 : o_needs (nI o) kd = rd tNeeds 19 (nI o) := by
        unfold o_needs
        rw [if_neg (show ¬ nI o = (17 : Int32) from fun q => h17 ((nI_eq (by omega) (by omega)).mp (q : nI o = nI 17)))]
      rw [h3] at h1
      exact ⟨_, (fit_h o ho h hh h1 h2).1, (fit_h o ho h hh h1 h2).2⟩
  · have hl : p_lim ac (nI n) (rd fo 64 (nI k)) = nI n := by rw [e1]; exact jump_lim hj
    have h3 := wf_lim hw (by rw [hl]; exact nI_ne_m1 (by omega))
    rw [hl, e2] at h3
    obtain ⟨j, hj2, ej⟩ := nI_of h3.1
    rw [ej, nI_leI (by omega) hj2] at h3
    exact ⟨j, by omega, ej⟩
end
/-- how many of the first N hold -/
theorem cnt_add (P Q : Nat → Bool) (e0 : Nat) (h0 : P e0 = false) (hq : ∀ e, Q e = (P e || decide (e = e0))) : ∀ N, (List.range N).countP Q = (List.range N).countP P + (if e0 < N then 1 else 0)
  | 0 => by simp
  | N + 1 => by
    rw [List.range_succ, List.countP_append, List.countP_append, cnt_add P Q e0 h0 hq N]
    by_cases h : N = e0
    · subst h
      simp [List.countP_cons, hq, h0]
    · have hQ : Q N = P N := by rw [hq]; simp [h]
      simp only [List.countP_cons, List.countP_nil, hQ]
      by_cases h2 : e0 < N
      · rw [if_pos h2, if_pos (show e0 < N + 1 by omega)]; omega
      · rw [if_neg h2, if_neg (show ¬ e0 < N + 1 by omega)]; omega
def cntB (m : Nat → Nat) : Nat := (List.range 576).countP (fun e => (m (e / 9)).testBit (e % 9))
theorem cntB_le (m : Nat → Nat) : cntB m ≤ 576 := by
  have h := List.countP_le_length (p := fun e => (m (e / 9)).testBit (e % 9)) (l := List.range 576)
  rwa [List.length_range] at h
def addB (m : Nat → Nat) (k h : Nat) : Nat → Nat := fun j => if j = k then m k ||| 2 ^ h else m j
theorem addB_bit (m : Nat → Nat) (k h j i : Nat) : (addB m k h j).testBit i = ((m j).testBit i || (decide (j = k) && decide (i = h))) := by
  unfold addB
  by_cases hj : j = k
  · subst hj
    rw [if_pos rfl, Nat.testBit_or, Nat.testBit_two_pow]
    simp [eq_comm]
  · rw [if_neg hj]
    simp [hj]
theorem cntB_add {m : Nat → Nat} {k h : Nat} (hk : k < 64) (hh : h < 9) (hb : (m k).testBit h = false) : cntB (addB m k h) = cntB m + 1 := by
  unfold cntB
  have e := cnt_add (fun e => (m (e / 9)).testBit (e % 9)) (fun e => (addB m k h (e / 9)).testBit (e % 9)) (9 * k + h) (by
    show (m ((9 * k + h) / 9)).testBit ((9 * k + h) % 9) = false
    rw [show (9 * k + h) / 9 = k by omega, show (9 * k + h) % 9 = h by omega]
    exact hb) (fun e => by
    show (addB m k h (e / 9)).testBit (e % 9) = _
    rw [addB_bit]
    congr 1
    rw [← Bool.decide_and]
    exact decide_eq_decide.mpr ⟨fun q => by omega, fun q => by omega⟩) 576
  rw [e, if_pos (by omega)]
/-- the class's three rows, in numbers: m: the bits; g: what waits, c of them -/
def WI (n : Nat) (Rc : Nat → Nat → Prop) (c : Nat) (m g : Nat → Nat) (u : WS) : Prop :=
  (∀ k, k < 64 → u.1 k = nI (m k) ∧ m k < 512) ∧ (∀ j, j < c → u.2.1 j = nI (g j) ∧ g j < 9 * n ∧ (m (g j / 9)).testBit (g j % 9) = true) ∧ u.2.2 = nI c ∧ c = cntB m ∧
  (∀ k h, k < n → h < 9 → (m k).testBit h = true → (∃ j, j < c ∧ g j = 9 * k + h) ∧ Rc k h)
theorem WI_0 (n : Nat) (Rc : Nat → Nat → Prop) (fw : Nat → Int32) : WI n Rc 0 (fun _ => 0) (fun _ => 0) (fun _ => 0, fw, 0) := by
  refine ⟨fun k _ => ⟨rfl, by show 0 < 512; decide⟩, fun j h => absurd h (Nat.not_lt_zero j), rfl, ?_, fun k h _ _ hb => ?_⟩
  · show 0 = (List.range 576).countP _
    symm
    rw [List.countP_eq_zero]
    intro e _
    simp
  · simp at hb
theorem reach_ok {n : Nat} {Rc : Nat → Nat → Prop} {c : Nat} {m g : Nat → Nat} {u : WS} (hn : n ≤ 64) (hI : WI n Rc c m g u) {k h : Nat} (hk : k < n) (hh : h < 9) (hR : Rc k h) :
    ∃ (c' : Nat) (m' g' : Nat → Nat), WI n Rc c' m' g' (w_reach (nI n) (nI k) (nI h) u) ∧ c ≤ c' ∧ (∀ j, j < c → g' j = g j) ∧ (∀ a b, (m a).testBit b = true → (m' a).testBit b = true) ∧ (m' k).testBit h = true := by
  obtain ⟨h1, h2, h3, h4, h5⟩ := hI
  have hc : c ≤ 576 := by rw [h4]; exact cntB_le m
  have e1 : rd u.1 64 (nI k) = nI (m k) := by rw [rd_in u.1 (by omega) (by omega)]; exact (h1 k (by omega)).1
  unfold w_reach
  rw [has_in hn hk, if_neg (by decide)]
  unfold w_isR
  rw [e1]
  by_cases hb : (m k).testBit h = true
  · have h0 : ¬ ((nI (m k) >>> (nI h &&& 31)) &&& 1 = 0) := fun q => by
      rw [bt_get (m k) (h1 k (by omega)).2 h hh, hb] at q
      exact Bool.noConfusion q
    rw [if_neg h0, if_neg (by decide)]
    exact ⟨c, m, g, ⟨h1, h2, h3, h4, h5⟩, Nat.le_refl _, fun _ _ => rfl, fun _ _ q => q, hb⟩
  · have hb : (m k).testBit h = false := by simpa using hb
    have h0 : (nI (m k) >>> (nI h &&& 31)) &&& 1 = 0 := (bt_get (m k) (h1 k (by omega)).2 h hh).mpr hb
    have hc' : c + 1 = cntB (addB m k h) := by rw [cntB_add (by omega) hh hb, h4]
    have hc2 : c + 1 ≤ 576 := by rw [hc']; exact cntB_le _
    rw [if_pos h0, if_pos rfl, (bt_set (m k) (h1 k (by omega)).2 h hh).1, wr_in u.1 (by omega) (by omega), h3, wr_in u.2.1 (by omega) (by omega), nI_1, show nI k * 9 + nI h = nI (k * 9 + h) by rw [show (9 : Int32) = nI 9 from rfl, pk_mul, nI_add]]
    refine ⟨c + 1, addB m k h, fun j => if j = c then 9 * k + h else g j, ⟨fun a ha => ?_, fun j hj => ?_, rfl, hc', fun a b ha hb' hab => ?_⟩, Nat.le_succ _, fun j hj => if_neg (by omega), fun a b hab => ?_, ?_⟩
    · show upd u.1 k (nI (m k ||| 2 ^ h)) a = nI (addB m k h a) ∧ addB m k h a < 512
      unfold upd addB
      by_cases e : a = k
      · rw [if_pos e, if_pos e]
        exact ⟨rfl, (bt_set (m k) (h1 k (by omega)).2 h hh).2⟩
      · rw [if_neg e, if_neg e]
        exact h1 a ha
    · show upd u.2.1 c (nI (k * 9 + h)) j = nI (if j = c then 9 * k + h else g j) ∧ (if j = c then 9 * k + h else g j) < 9 * n ∧ (addB m k h ((if j = c then 9 * k + h else g j) / 9)).testBit ((if j = c then 9 * k + h else g j) % 9) = true
      unfold upd
      by_cases e : j = c
      · rw [if_pos e, if_pos e, show (9 * k + h) / 9 = k by omega, show (9 * k + h) % 9 = h by omega, addB_bit]
        exact ⟨by rw [Nat.mul_comm], by omega, by simp⟩
      · rw [if_neg e, if_neg e, addB_bit]
        have h6 := h2 j (by omega)
        exact ⟨h6.1, h6.2.1, by rw [h6.2.2]; rfl⟩
    · rw [addB_bit] at hab
      by_cases hab1 : (m a).testBit b = true
      · obtain ⟨⟨j, hj, ej⟩, hr⟩ := h5 a b ha hb' hab1
        exact ⟨⟨j, by omega, by show (if j = c then 9 * k + h else g j) = _; rw [if_neg (by omega)]; exact ej⟩, hr⟩
      · simp [hab1] at hab
        obtain ⟨rfl, rfl⟩ := hab
        exact ⟨⟨c, by omega, by show (if c = c then _ else _) = _; rw [if_pos rfl]⟩, hR⟩
    · rw [addB_bit, hab]; rfl
    · rw [addB_bit]; simp
section
variable {kd ac : Int32} {n : Nat} {fo fn : Nat → Int32}
theorem goOn_ok {c : Nat} {m g : Nat → Nat} {u : WS} (hn : n ≤ 64) (hI : WI n (Rch kd ac n fo fn) c m g u) {k h : Nat} (hk : k < n) (hh : h < 9) (hb : (m k).testBit h = true) :
    ∃ (c' : Nat) (m' g' : Nat → Nat), WI n (Rch kd ac n fo fn) c' m' g' (w_goOn kd (nI n) ac fo fn (nI k) (nI h) u) ∧ c ≤ c' ∧ (∀ j, j < c → g' j = g j) ∧ (∀ a b, (m a).testBit b = true → (m' a).testBit b = true) ∧ (cb kd ac n fo fn k h → ∀ k' h', nxt n fo fn k h k' h' → (m' k').testBit h' = true) := by
  have e1 : rd fo 64 (nI k) = fo k := rd_in fo (by omega) (by omega)
  have e2 : rd fn 64 (nI k) = fn k := rd_in fn (by omega) (by omega)
  have hR := (hI.2.2.2.2 k h hk hh hb).2
  unfold w_goOn
  rw [e1, e2]
  by_cases hc : p_cbd kd (nI n) ac fo fn (nI k) (nI h) = 0
  · rw [if_pos hc]
    exact ⟨c, m, g, hI, Nat.le_refl _, fun _ _ => rfl, fun _ _ q => q, fun q => absurd hc q⟩
  rw [if_neg hc]
  obtain ⟨-, ⟨h1, hh1, eh⟩, hx, hj⟩ := cb_facts hn hk hh hc
  have hsame : ∀ k' h', nxt n fo fn k h k' h' → h' = h1 := fun k' h' q => ((nI_eq (by omega) (by have := q.2.1; omega)).mp (eh.symm.trans q.2.2.1)).symm
  rw [eh]
  by_cases hx0 : o_next (fo k) = 0
  · rw [if_pos hx0]
    by_cases hj0 : o_jump (fo k) = 0
    · rw [if_pos hj0]
      exact ⟨c, m, g, hI, Nat.le_refl _, fun _ _ => rfl, fun _ _ q => q, fun _ k' h' q => by
        rcases q.2.2.2 with q | q
        · exact absurd hx0 q.1
        · exact absurd hj0 q.1⟩
    · rw [if_neg hj0]
      obtain ⟨k1, hk1, ek⟩ := hj hj0
      rw [ek]
      obtain ⟨c', m', g', a1, a2, a3, a4, a5⟩ := reach_ok hn hI hk1 hh1 (Rch_s hk hh hR hc ⟨hk1, hh1, eh, Or.inr ⟨hj0, ek⟩⟩)
      refine ⟨c', m', g', a1, a2, a3, a4, fun _ k' h' q => ?_⟩
      rw [hsame k' h' q]
      rcases q.2.2.2 with q2 | q2
      · exact absurd hx0 q2.1
      · rw [(nI_eq (by have := q.1; omega) (by omega)).mp (q2.2.symm.trans ek)]
        exact a5
  · rw [if_neg hx0, nI_1]
    have hk2 := hx hx0
    obtain ⟨c1, m1, g1, a1, a2, a3, a4, a5⟩ := reach_ok hn hI hk2 hh1 (Rch_s hk hh hR hc ⟨hk2, hh1, eh, Or.inl ⟨hx0, rfl⟩⟩)
    by_cases hj0 : o_jump (fo k) = 0
    · rw [if_pos hj0]
      refine ⟨c1, m1, g1, a1, a2, a3, a4, fun _ k' h' q => ?_⟩
      rw [hsame k' h' q]
      rcases q.2.2.2 with q2 | q2
      · rw [q2.2]; exact a5
      · exact absurd hj0 q2.1
    · rw [if_neg hj0]
      obtain ⟨k1, hk1, ek⟩ := hj hj0
      rw [ek]
      obtain ⟨c2, m2, g2, b1, b2, b3, b4, b5⟩ := reach_ok hn a1 hk1 hh1 (Rch_s hk hh hR hc ⟨hk1, hh1, eh, Or.inr ⟨hj0, ek⟩⟩)
      refine ⟨c2, m2, g2, b1, by omega, fun j hj => (b3 j (by omega)).trans (a3 j hj), fun a b q => b4 a b (a4 a b q), fun _ k' h' q => ?_⟩
      rw [hsame k' h' q]
      rcases q.2.2.2 with q2 | q2
      · rw [q2.2]; exact b4 _ _ a5
      · rw [(nI_eq (by have := q.1; omega) (by omega)).mp (q2.2.symm.trans ek)]
        exact b5
theorem loop_ok (hn : n ≤ 64) : ∀ (N i c : Nat) (m g : Nat → Nat) (u : WS), WI n (Rch kd ac n fo fn) c m g u → i ≤ c → i + N = 576 →
    (∀ j, j < i → cb kd ac n fo fn (g j / 9) (g j % 9) → ∀ k' h', nxt n fo fn (g j / 9) (g j % 9) k' h' → (m k').testBit h' = true) →
    ∃ (c' : Nat) (m' g' : Nat → Nat), WI n (Rch kd ac n fo fn) c' m' g' (w_loop kd (nI n) ac fo fn N (nI i) u) ∧ (∀ a b, (m a).testBit b = true → (m' a).testBit b = true) ∧
      (∀ j, j < c' → cb kd ac n fo fn (g' j / 9) (g' j % 9) → ∀ k' h', nxt n fo fn (g' j / 9) (g' j % 9) k' h' → (m' k').testBit h' = true)
  | 0, i, c, m, g, u, hI, hic, hiN, hp => by
    have hc : c ≤ 576 := by rw [hI.2.2.2.1]; exact cntB_le m
    exact ⟨c, m, g, hI, fun _ _ q => q, fun j hj => hp j (by omega)⟩
  | N + 1, i, c, m, g, u, hI, hic, hiN, hp => by
    have hc : c ≤ 576 := by rw [hI.2.2.2.1]; exact cntB_le m
    show ∃ (c' : Nat) (m' g' : Nat → Nat), WI n (Rch kd ac n fo fn) c' m' g' (if nI 576 ≤ nI i then u else if u.2.2 ≤ nI i then u else w_loop kd (nI n) ac fo fn N (nI i + 1) (w_goOn kd (nI n) ac fo fn (rd u.2.1 576 (nI i) / 9) (rd u.2.1 576 (nI i) - rd u.2.1 576 (nI i) / 9 * 9) u)) ∧ _
    rw [if_neg (by rw [nI_leI (by omega) (by omega)]; omega), hI.2.2.1]
    by_cases hd : nI c ≤ nI i
    · rw [if_pos hd]
      rw [nI_leI (by omega) (by omega)] at hd
      exact ⟨c, m, g, hI, fun _ _ q => q, fun j hj => hp j (by omega)⟩
    · rw [if_neg hd]
      rw [nI_leI (by omega) (by omega)] at hd
      obtain ⟨q1, q2, q3⟩ := hI.2.1 i (by omega)
      have er : rd u.2.1 576 (nI i) = nI (g i) := by rw [rd_in u.2.1 (by omega) (by omega)]; exact q1
      have e9 : nI (g i) / 9 = nI (g i / 9) := pk_div (d := 9) (by omega) (by omega) (by omega)
      have e8 : nI (g i) - nI (g i) / 9 * 9 = nI (g i % 9) := pk_rem (d := 9) (by omega) (by omega) (by omega)
      rw [er, e8, e9, nI_1]
      obtain ⟨c1, m1, g1, a1, a2, a3, a4, a5⟩ := goOn_ok hn hI (k := g i / 9) (h := g i % 9) (by omega) (by omega) q3
      obtain ⟨c2, m2, g2, b1, b2, b3⟩ := loop_ok hn N (i + 1) c1 m1 g1 _ a1 (by omega) (by omega) (fun j hj hcb k' h' hx => by
        by_cases hji : j = i
        · subst hji
          rw [a3 j (by omega)] at hcb hx
          exact a5 hcb k' h' hx
        · rw [a3 j (by omega)] at hcb hx
          exact a4 _ _ (hp j (by omega) hcb k' h' hx))
      exact ⟨c2, m2, g2, b1, fun a b q => b2 a b (a4 a b q), b3⟩
/-- behind follow: the bits of each row are the heights with which it can be reached -/
theorem follow_ok (hn : n ≤ 64) (h0 : 0 < n) (fw : Nat → Int32) : ∃ m : Nat → Nat, (∀ k, k < 64 → (w_follow kd (nI n) ac fo fn fw).1 k = nI (m k) ∧ m k < 512) ∧ ∀ k h, k < n → h < 9 → ((m k).testBit h = true ↔ Rch kd ac n fo fn k h) := by
  obtain ⟨c, m, g, a1, a2, a3, a4, a5⟩ := reach_ok hn (WI_0 n (Rch kd ac n fo fn) fw) (k := 0) (h := 0) h0 (by omega) Rch_0
  obtain ⟨c1, m1, g1, b1, b2, b3⟩ := loop_ok hn 576 0 c m g _ a1 (by omega) (by omega) (fun j hj => absurd hj (Nat.not_lt_zero j))
  refine ⟨m1, b1.1, fun k h hk hh => ⟨fun q => (b1.2.2.2.2 k h hk hh q).2, fun q => ?_⟩⟩
  have hS := q (fun k h => k < n ∧ h < 9 ∧ (m1 k).testBit h = true) ⟨h0, by omega, b2 _ _ a5⟩ (fun k h k' h' hk hh hs hcb hx => ⟨hx.1, hx.2.1, by
    obtain ⟨⟨j, hj, ej⟩, -⟩ := b1.2.2.2.2 k h hk hh hs.2.2
    have hj9 : g1 j / 9 = k := by omega
    have hj8 : g1 j % 9 = h := by omega
    exact b3 j hj (by rw [hj9, hj8]; exact hcb) k' h' (by rw [hj9, hj8]; exact hx)⟩)
  exact hS.2.2
end
end
section
/-! one step of the machine, in numbers -/
theorem nI_p1 (t : Nat) : nI (t + 1) - 1 = nI t := nI_pred t
theorem nI_p2 (t : Nat) : nI (t + 2) - 1 = nI (t + 1) := nI_pred (t + 1)
section
variable {res stp pcn ap kd n : Int32} {fk fv fa fl fs : Nat → Int32} {t j : Nat}
theorem one_0 (ht : t < 8) : m_one 0 n kd (res, stp, pcn, fk, fv, fa, fl, fs, nI t, ap) = (3, (res, stp, pcn, fk, fv, fa, fl, upd fs t n, nI (t + 1), ap + 1)) := by
  show (3, (res, stp, pcn, fk, fv, fa, fl, wr fs 8 (nI t) n, nI t + 1, ap + 1)) = _
  rw [wr_in fs ht (by omega), nI_1]
theorem one_1 (ht : t < 8) (hj : j < 3) : m_one 1 (nI j) kd (res, stp, pcn, fk, fv, fa, fl, fs, nI t, ap) = (3, (res, stp, pcn, fk, fv, fa, fl, upd fs t (fa j), nI (t + 1), ap + 1)) := by
  show (3, (res, stp, pcn, fk, fv, fa, fl, wr fs 8 (nI t) (rd fa 3 (nI j)), nI t + 1, ap + 1)) = _
  rw [wr_in fs ht (by omega), nI_1, rd_in fa hj (by omega)]
theorem one_2 (ht : t < 8) (hj : j < 4) : m_one 2 (nI j) kd (res, stp, pcn, fk, fv, fa, fl, fs, nI t, ap) = (3, (res, stp, pcn, fk, fv, fa, fl, upd fs t (fl j), nI (t + 1), ap + 1)) := by
  show (3, (res, stp, pcn, fk, fv, fa, fl, wr fs 8 (nI t) (rd fl 4 (nI j)), nI t + 1, ap + 1)) = _
  rw [wr_in fs ht (by omega), nI_1, rd_in fl hj (by omega)]
theorem one_3 (ht : t < 8) (hj : j < 4) : m_one 3 (nI j) kd (res, stp, pcn, fk, fv, fa, fl, fs, nI (t + 1), ap) = (3, (res, stp, pcn, fk, fv, fa, upd fl j (fs t), fs, nI t, ap + 1)) := by
  show (3, (res, stp, pcn, fk, fv, fa, wr fl 4 (nI j) (rd fs 8 (nI (t + 1) - 1)), fs, nI (t + 1) - 1, ap + 1)) = _
  rw [nI_p1, rd_in fs ht (by omega), wr_in fl hj (by omega)]
theorem upd_self (f : Nat → Int32) (k : Nat) : upd f k (f k) = f := by
  funext i
  unfold upd
  by_cases h : i = k
  · rw [if_pos h, h]
  · rw [if_neg h]
theorem upd_comm (f : Nat → Int32) {a b : Nat} (h : a ≠ b) (x y : Int32) : upd (upd f a x) b y = upd (upd f b y) a x := by
  funext i
  unfold upd
  by_cases h1 : i = a
  · by_cases h2 : i = b
    · omega
    · rw [if_neg h2, if_pos h1, if_pos h1]
  · by_cases h2 : i = b
    · rw [if_pos h2, if_neg h1, if_pos h2]
    · rw [if_neg h2, if_neg h1, if_neg h1, if_neg h2]
theorem one_4 (ht : t + 1 < 8) : m_one 4 n kd (res, stp, pcn, fk, fv, fa, fl, fs, nI (t + 1), ap) = (3, (res, stp, pcn, fk, fv, fa, fl, upd fs (t + 1) (fs t), nI (t + 2), ap + 1)) := by
  show (3, (res, stp, pcn, fk, fv, fa, fl, wr (wr fs 8 (nI (t + 1) - 1) (rd fs 8 (nI (t + 1) - 1))) 8 (nI (t + 1) - 1 + 1) (rd fs 8 (nI (t + 1) - 1)), nI (t + 1) - 1 + 1 + 1, ap + 1)) = _
  rw [nI_p1, rd_in fs (by omega) (by omega), nI_1, wr_in fs (by omega) (by omega), upd_self, wr_in fs ht (by omega), nI_1]
theorem one_5 (ht : t + 1 < 8) : m_one 5 n kd (res, stp, pcn, fk, fv, fa, fl, fs, nI (t + 2), ap) = (3, (res, stp, pcn, fk, fv, fa, fl, upd (upd fs (t + 1) (fs t)) t (fs (t + 1)), nI (t + 2), ap + 1)) := by
  show (3, (res, stp, pcn, fk, fv, fa, fl, wr (wr fs 8 (nI (t + 2) - 1 - 1) (rd fs 8 (nI (t + 2) - 1))) 8 (nI (t + 2) - 1 - 1 + 1) (rd fs 8 (nI (t + 2) - 1 - 1)), nI (t + 2) - 1 - 1 + 1 + 1, ap + 1)) = _
  rw [nI_p2, nI_p1, rd_in fs ht (by omega), rd_in fs (j := t) (by omega) (by omega), nI_1, wr_in fs (j := t) (by omega) (by omega), wr_in _ ht (by omega), nI_1, upd_comm fs (by omega)]
theorem one_6 : m_one 6 n kd (res, stp, pcn, fk, fv, fa, fl, fs, nI (t + 1), ap) = (3, (res, stp, pcn, fk, fv, fa, fl, fs, nI t, ap + 1)) := by
  show (3, (res, stp, pcn, fk, fv, fa, fl, fs, nI (t + 1) - 1, ap + 1)) = _
  rw [nI_p1]
theorem one_c (ht : t + 1 < 8) {o : Nat} (h7 : 7 ≤ o) (h13 : o ≤ 13) : m_one (nI o) n kd (res, stp, pcn, fk, fv, fa, fl, fs, nI (t + 2), ap) = (3, (res, stp, pcn, fk, fv, fa, fl, upd fs t (m_comb (nI o) (fs t) (fs (t + 1))), nI (t + 1), ap + 1)) := by
  have e : m_one (nI o) n kd (res, stp, pcn, fk, fv, fa, fl, fs, nI (t + 2), ap) = (3, (res, stp, pcn, fk, fv, fa, fl, wr fs 8 (nI (t + 2) - 1 - 1) (m_comb (nI o) (rd fs 8 (nI (t + 2) - 1 - 1)) (rd fs 8 (nI (t + 2) - 1))), nI (t + 2) - 1 - 1 + 1, ap + 1)) := by
    rcases (by omega : o = 7 ∨ o = 8 ∨ o = 9 ∨ o = 10 ∨ o = 11 ∨ o = 12 ∨ o = 13) with rfl | rfl | rfl | rfl | rfl | rfl | rfl <;> rfl
  rw [e, nI_p2, nI_p1, rd_in fs ht (by omega), rd_in fs (j := t) (by omega) (by omega), wr_in fs (j := t) (by omega) (by omega), nI_1]
theorem one_14 : m_one 14 n kd (res, stp, pcn, fk, fv, fa, fl, fs, nI t, ap) = (3, (res, stp, pcn, fk, fv, fa, fl, fs, nI t, n)) := rfl
theorem one_15 (ht : t < 8) : m_one 15 n kd (res, stp, pcn, fk, fv, fa, fl, fs, nI (t + 1), ap) = (3, (res, stp, pcn, fk, fv, fa, fl, fs, nI t, if fs t = 0 then n else ap + 1)) := by
  show (if rd fs 8 (nI (t + 1) - 1) = 0 then (3, (res, stp, pcn, fk, fv, fa, fl, fs, nI (t + 1) - 1, n)) else (3, (res, stp, pcn, fk, fv, fa, fl, fs, nI (t + 1) - 1, ap + 1))) = _
  rw [nI_p1, rd_in fs ht (by omega)]
  by_cases h : fs t = 0
  · rw [if_pos h, if_pos h]
  · rw [if_neg h, if_neg h]
theorem one_16 (ht : t + 1 < 8) {p : Nat} (hp : p < 20) : m_one 16 n kd (res, stp, nI p, fk, fv, fa, fl, fs, nI (t + 2), ap) = (3, (res, stp, nI (p + 1), upd fk p (fs t), upd fv p (fs (t + 1)), fa, fl, fs, nI t, ap + 1)) := by
  show (if nI p < 20 then (3, (res, stp, nI p + 1, wr fk 20 (nI p) (rd fs 8 (nI (t + 2) - 1 - 1)), wr fv 20 (nI p) (rd fs 8 (nI (t + 2) - 1)), fa, fl, fs, nI (t + 2) - 1 - 1, ap + 1)) else (2, (res, stp, nI p, fk, fv, fa, fl, fs, nI (t + 2), ap + 1))) = _
  rw [if_pos (show nI p < (20 : Int32) from nI_lt (b := 20) hp (by omega)), nI_p2, nI_p1, rd_in fs ht (by omega), rd_in fs (j := t) (by omega) (by omega), wr_in fk hp (by omega), wr_in fv hp (by omega), nI_1]
theorem one_16f : m_one 16 n kd (res, stp, nI 20, fk, fv, fa, fl, fs, nI t, ap) = (2, (res, stp, nI 20, fk, fv, fa, fl, fs, nI t, ap + 1)) := rfl
theorem one_17z : m_one 17 n 0 (res, stp, pcn, fk, fv, fa, fl, fs, nI t, ap) = (0, (0, stp, pcn, fk, fv, fa, fl, fs, nI t, ap + 1)) := rfl
theorem one_17 (hk : ¬ kd = 0) (ht : t < 8) : m_one 17 n kd (res, stp, pcn, fk, fv, fa, fl, fs, nI (t + 1), ap) = (0, (fs t, stp, pcn, fk, fv, fa, fl, fs, nI t, ap + 1)) := by
  show (if kd = 0 then (0, (0, stp, pcn, fk, fv, fa, fl, fs, nI (t + 1), ap + 1)) else (0, (rd fs 8 (nI (t + 1) - 1), stp, pcn, fk, fv, fa, fl, fs, nI (t + 1) - 1, ap + 1))) = _
  rw [if_neg hk, nI_p1, rd_in fs ht (by omega)]
theorem one_18 : m_one 18 n kd (res, stp, pcn, fk, fv, fa, fl, fs, nI t, ap) = (1, (res, stp, pcn, fk, fv, fa, fl, fs, nI t, ap + 1)) := rfl
end
section
variable {res stp pcn hgt ap kd n : Int32} {fk fv fa fl fs : Nat → Int32}
theorem m1_15 : m_one 15 n kd (res, stp, pcn, fk, fv, fa, fl, fs, hgt, ap) = if rd fs 8 (hgt - 1) = 0 then (3, (res, stp, pcn, fk, fv, fa, fl, fs, hgt - 1, n)) else (3, (res, stp, pcn, fk, fv, fa, fl, fs, hgt - 1, ap + 1)) := rfl
theorem m1_17 : m_one 17 n kd (res, stp, pcn, fk, fv, fa, fl, fs, hgt, ap) = if kd = 0 then (0, (0, stp, pcn, fk, fv, fa, fl, fs, hgt, ap + 1)) else (0, (rd fs 8 (hgt - 1), stp, pcn, fk, fv, fa, fl, fs, hgt - 1, ap + 1)) := rfl
end
end
section
/-! the reference's small methods, as their branches go, and that they say the same as the class's -/
def acOf (kd : Int32) : Int32 := if kd = 1 then 3 else if kd = 2 then 3 else 2
def v_b14 (sz o nn : Int32) : Int32 := if o = 14 then (if nn < 0 then 1 else if nn < sz then 0 else 1) else if o = 15 then (if nn < 0 then 1 else if nn < sz then 0 else 1) else 0
def v_b2 (sz o nn : Int32) : Int32 := if o = 2 then (if nn < 0 then 1 else if nn ≤ 3 then 0 else 1) else if o = 3 then (if nn < 0 then 1 else if nn ≤ 3 then 0 else 1) else v_b14 sz o nn
def v_b1 (kd sz o nn : Int32) : Int32 := if o = 1 then (if nn < 0 then 1 else if 2 < nn then 1 else if nn = 2 then (if kd = 0 then 1 else if kd = 3 then 1 else 0) else 0) else v_b2 sz o nn
def v_b18 (kd sz o nn : Int32) : Int32 := if o = 18 then (if kd = 3 then v_b1 kd sz o nn else 1) else v_b1 kd sz o nn
def v_bad (kd sz o nn : Int32) : Int32 := if o < 0 then 1 else if 18 < o then 1 else if o = 16 then (if kd = 0 then v_b18 kd sz o nn else 1) else v_b18 kd sz o nn
def v_n3 (kd o : Int32) : Int32 := if o = 3 then 1 else if o = 4 then 1 else if o = 6 then 1 else if o = 15 then 1 else if o = 17 then (if kd = 0 then 0 else 1) else 0
def v_needs (kd o : Int32) : Int32 := if o = 5 then 2 else if o < 7 then (if o = 16 then 2 else v_n3 kd o) else if o ≤ 13 then 2 else if o = 16 then 2 else v_n3 kd o
def v_g15 (o : Int32) : Int32 := if o = 15 then -1 else if o = 16 then -2 else 0
def v_grow (o : Int32) : Int32 := if o ≤ 2 then 1 else if o = 4 then 1 else if o = 3 then -1 else if o = 6 then -1 else if o < 7 then v_g15 o else if o ≤ 13 then -1 else v_g15 o
theorem grow_eq : ∀ o, o < 19 → v_grow (nI o) = o_grow (nI o) := by decide +kernel
theorem needs_0 : ∀ o, o < 19 → v_needs 0 (nI o) = o_needs (nI o) 0 := by decide +kernel
theorem needs_1 : ∀ o, o < 19 → v_needs 1 (nI o) = o_needs (nI o) 1 := by decide +kernel
theorem needs_eq (kd : Int32) {o : Nat} (ho : o < 19) : v_needs kd (nI o) = o_needs (nI o) kd := by
  by_cases hk : kd = 0
  · subst hk; exact needs_0 o ho
  · have e1 : v_needs kd (nI o) = v_needs 1 (nI o) := by
      unfold v_needs v_n3
      rw [if_neg hk, if_neg (show ¬ (1 : Int32) = 0 by decide)]
    have e2 : o_needs (nI o) kd = o_needs (nI o) 1 := by
      unfold o_needs
      rw [if_neg hk, if_neg (show ¬ (1 : Int32) = 0 by decide)]
    rw [e1, e2, needs_1 o ho]
def wfb (kd sz ac o nn : Int32) : Int32 := if o_isOf o kd = 0 then 0 else if p_lim ac sz o = -1 then 1 else if nn < 0 then 0 else if p_lim ac sz o ≤ nn then 0 else 1
theorem i32_3 (x : Int32) : (3 : Int32) ≤ x ↔ 2 < x := by
  rw [Int32.le_iff_toInt_le, Int32.lt_iff_toInt_lt, show (3 : Int32).toInt = 3 by decide, show (2 : Int32).toInt = 2 by decide]
  omega
theorem i32_4 (x : Int32) : (4 : Int32) ≤ x ↔ ¬ x ≤ 3 := by
  rw [Int32.le_iff_toInt_le, Int32.le_iff_toInt_le, show (3 : Int32).toInt = 3 by decide, show (4 : Int32).toInt = 4 by decide]
  omega
theorem i32_2 (x : Int32) : (2 : Int32) ≤ x ↔ (2 < x ∨ x = 2) := by
  rw [Int32.le_iff_toInt_le, Int32.lt_iff_toInt_lt, ← Int32.toInt_inj, show (2 : Int32).toInt = 2 by decide]
  omega
theorem bad_wf {kd sz o nn : Int32} (hk : kd = 0 ∨ kd = 1 ∨ kd = 2 ∨ kd = 3) (hs : ¬ sz = -1) : v_bad kd sz o nn = 0 ↔ ¬ wfb kd sz (acOf kd) o nn = 0 := by
  by_cases h0 : o < 0
  · have h1 : v_bad kd sz o nn = 1 := by unfold v_bad; rw [if_pos h0]
    have h2 : o_isOf o kd = 0 := by
      unfold o_isOf
      rw [if_neg (fun e => by subst e; exact absurd h0 (by decide)), if_neg (fun e => by subst e; exact absurd h0 (by decide)), if_pos h0]
    rw [h1]
    unfold wfb
    rw [if_pos h2]
    decide
  by_cases h18 : 18 < o
  · have h1 : v_bad kd sz o nn = 1 := by unfold v_bad; rw [if_neg h0, if_pos h18]
    have h2 : o_isOf o kd = 0 := by
      unfold o_isOf
      rw [if_neg (fun e => by subst e; exact absurd h18 (by decide)), if_neg (fun e => by subst e; exact absurd h18 (by decide)), if_neg h0, if_pos (Int32.lt_trans (by decide) h18)]
    rw [h1]
    unfold wfb
    rw [if_pos h2]
    decide
  obtain ⟨j, hj, rfl⟩ := nI_of2 (M := 18) (n := 18) (by decide) h0 (Int32.not_lt.mp h18)
  have hJ : ∀ z : Int32, (if nn < 0 then (1 : Int32) else if nn < sz then 0 else 1) = 0 ↔ ¬ (if sz = -1 then (1 : Int32) else if nn < 0 then 0 else if sz ≤ nn then 0 else 1) = 0 := fun _ => by
    rw [if_neg hs]
    by_cases a : nn < 0
    · rw [if_pos a, if_pos a]; decide
    · rw [if_neg a, if_neg a]
      by_cases b : nn < sz
      · rw [if_pos b, if_neg (Int32.not_le.mpr b)]; decide
      · rw [if_neg b, if_pos (Int32.not_lt.mp b)]; decide
  have hL : (if nn < 0 then (1 : Int32) else if nn ≤ 3 then 0 else 1) = 0 ↔ ¬ (if nn < 0 then (0 : Int32) else if (4 : Int32) ≤ nn then 0 else 1) = 0 := by
    by_cases a : nn < 0
    · rw [if_pos a, if_pos a]; decide
    · rw [if_neg a, if_neg a]
      by_cases b : nn ≤ 3
      · rw [if_pos b, if_neg (fun q => (i32_4 nn).mp q b)]; decide
      · rw [if_neg b, if_pos ((i32_4 nn).mpr b)]; decide
  have hA3 : (if nn < 0 then (1 : Int32) else if 2 < nn then 1 else if nn = 2 then 0 else 0) = 0 ↔ ¬ (if nn < 0 then (0 : Int32) else if (3 : Int32) ≤ nn then 0 else 1) = 0 := by
    by_cases a : nn < 0
    · rw [if_pos a, if_pos a]; decide
    · rw [if_neg a, if_neg a]
      by_cases b : 2 < nn
      · rw [if_pos b, if_pos ((i32_3 nn).mpr b)]; decide
      · rw [if_neg b, if_neg (fun q => b ((i32_3 nn).mp q)), ite_self]; decide
  have hA2 : (if nn < 0 then (1 : Int32) else if 2 < nn then 1 else if nn = 2 then 1 else 0) = 0 ↔ ¬ (if nn < 0 then (0 : Int32) else if (2 : Int32) ≤ nn then 0 else 1) = 0 := by
    by_cases a : nn < 0
    · rw [if_pos a, if_pos a]; decide
    · rw [if_neg a, if_neg a]
      by_cases b : 2 < nn
      · rw [if_pos b, if_pos ((i32_2 nn).mpr (Or.inl b))]; decide
      · rw [if_neg b]
        by_cases c : nn = 2
        · rw [if_pos c, if_pos ((i32_2 nn).mpr (Or.inr c))]; decide
        · rw [if_neg c, if_neg (fun q => ((i32_2 nn).mp q).elim b c)]; decide
  rcases (by omega : j = 1 ∨ j = 2 ∨ j = 3 ∨ j = 14 ∨ j = 15 ∨ j = 16 ∨ j = 18 ∨ (j = 0 ∨ j = 4 ∨ j = 5 ∨ j = 6 ∨ j = 7 ∨ j = 8 ∨ j = 9 ∨ j = 10 ∨ j = 11 ∨ j = 12 ∨ j = 13 ∨ j = 17)) with rfl | rfl | rfl | rfl | rfl | rfl | rfl | h
  · rcases hk with rfl | rfl | rfl | rfl
    · exact hA2
    · exact hA3
    · exact hA3
    · exact hA2
  · exact hL
  · exact hL
  · exact hJ 0
  · exact hJ 0
  · rcases hk with rfl | rfl | rfl | rfl
    · exact ⟨fun _ q => absurd q (by decide : ¬ (1 : Int32) = 0), fun _ => rfl⟩
    · exact ⟨fun q => absurd q (by decide : ¬ (1 : Int32) = 0), fun q => absurd (rfl : (0 : Int32) = 0) q⟩
    · exact ⟨fun q => absurd q (by decide : ¬ (1 : Int32) = 0), fun q => absurd (rfl : (0 : Int32) = 0) q⟩
    · exact ⟨fun q => absurd q (by decide : ¬ (1 : Int32) = 0), fun q => absurd (rfl : (0 : Int32) = 0) q⟩
  · rcases hk with rfl | rfl | rfl | rfl
    · exact ⟨fun q => absurd q (by decide : ¬ (1 : Int32) = 0), fun q => absurd (rfl : (0 : Int32) = 0) q⟩
    · exact ⟨fun q => absurd q (by decide : ¬ (1 : Int32) = 0), fun q => absurd (rfl : (0 : Int32) = 0) q⟩
    · exact ⟨fun q => absurd q (by decide : ¬ (1 : Int32) = 0), fun q => absurd (rfl : (0 : Int32) = 0) q⟩
    · exact ⟨fun _ q => absurd q (by decide : ¬ (1 : Int32) = 0), fun _ => rfl⟩
  · rcases h with rfl | rfl | rfl | rfl | rfl | rfl | rfl | rfl | rfl | rfl | rfl | rfl <;> exact ⟨fun _ q => absurd q (by decide : ¬ (1 : Int32) = 0), fun _ => rfl⟩
theorem wf_wfb {kd sz ac : Int32} {fo fn : Nat → Int32} {a : Nat} (ha : a < 64) : p_wf kd sz ac fo fn (nI a) = wfb kd sz ac (fo a) (fn a) := by
  unfold p_wf wfb
  rw [rd_in fo ha (by omega), rd_in fn ha (by omega)]
end
section
/-! the reference's sweeps, in numbers -/
def v_rch (fR : Nat → Int32) (k h : Nat) : Nat → Int32 := if fR (9 * k + h) = 0 then upd fR (9 * k + h) 1 else fR
def v_opt (z : Int32) (k h : Nat) (fR : Nat → Int32) : Nat → Int32 := if z = 0 then fR else v_rch fR k h
section
variable (kd ac : Int32) (n : Nat) (fo fn : Nat → Int32)
/-- what goOn(a, b) does to the marks and to what is wrong -/
def GoR (a b : Nat) (fR fW : Nat → Int32) (u : (Nat → Int32) × (Nat → Int32)) : Prop :=
  (p_wf kd (nI n) ac fo fn (nI a) = 0 ∧ u = (fR, fW)) ∨
  (¬ p_wf kd (nI n) ac fo fn (nI a) = 0 ∧ ¬ cb kd ac n fo fn a b ∧ u = (fR, upd fW a 1)) ∨
  (cb kd ac n fo fn a b ∧ ∃ h1 k1 : Nat, h1 < 9 ∧ nI b + o_grow (fo a) = nI h1 ∧ (¬ o_jump (fo a) = 0 → k1 < n ∧ fn a = nI k1) ∧ u = (v_opt (o_jump (fo a)) k1 h1 (v_opt (o_next (fo a)) (a + 1) h1 fR), fW))
/-- WRONG for a reason that isn't two heights -/
def BW (i : Nat) : Prop := p_wf kd (nI n) ac fo fn (nI i) = 0 ∨ ∃ h, h < 9 ∧ Rch kd ac n fo fn i h ∧ ¬ cb kd ac n fo fn i h
def PrE (r : Nat → Nat) (fW : Nat → Int32) (e : Nat) : Prop := (¬ cb kd ac n fo fn (e / 9) (e % 9) → fW (e / 9) = 1) ∧ (cb kd ac n fo fn (e / 9) (e % 9) → ∀ k' h', nxt n fo fn (e / 9) (e % 9) k' h' → ¬ r (9 * k' + h') = 0)
def RI (X : Nat → Prop) (r : Nat → Nat) (fR fW : Nat → Int32) : Prop :=
  (∀ e, e < 576 → fR e = nI (r e) ∧ r e ≤ 2) ∧ (∀ e, e < 9 * n → ¬ r e = 0 → Rch kd ac n fo fn (e / 9) (e % 9)) ∧ (∀ i, i < n → fW i = 0 ∨ fW i = 1) ∧ (∀ i, i < n → fW i = 1 → BW kd ac n fo fn i) ∧
  (∀ i, i < n → p_wf kd (nI n) ac fo fn (nI i) = 0 → fW i = 1) ∧ (∀ e, e < 9 * n → r e = 2 → ¬ X e → PrE kd ac n fo fn r fW e) ∧ (0 < n → ¬ r 0 = 0)
def FillR (fR fW : Nat → Int32) : Prop := (∀ k h, k < n → h < 9 → (¬ fR (9 * k + h) = 0 ↔ Rch kd ac n fo fn k h)) ∧ (∀ i, i < n → fW i = 0 ∨ fW i = 1) ∧ (∀ i, i < n → (fW i = 1 ↔ BW kd ac n fo fn i))
end
def upN (r : Nat → Nat) (k x : Nat) : Nat → Nat := fun j => if j = k then x else r j
def rchN (r : Nat → Nat) (k h : Nat) : Nat → Nat := if r (9 * k + h) = 0 then upN r (9 * k + h) 1 else r
def optN (z : Int32) (k h : Nat) (r : Nat → Nat) : Nat → Nat := if z = 0 then r else rchN r k h
theorem rchN_2 (r : Nat → Nat) (k h e : Nat) : rchN r k h e = 2 ↔ r e = 2 := by
  unfold rchN upN
  by_cases h0 : r (9 * k + h) = 0
  · rw [if_pos h0]
    by_cases he : e = 9 * k + h
    · subst he; simp [h0]
    · simp [he]
  · rw [if_neg h0]
theorem rchN_0 (r : Nat → Nat) (k h e : Nat) (he : ¬ r e = 0) : ¬ rchN r k h e = 0 := by
  unfold rchN upN
  by_cases h0 : r (9 * k + h) = 0
  · rw [if_pos h0]
    by_cases h1 : e = 9 * k + h
    · simp [h1]
    · simp [h1, he]
  · rw [if_neg h0]; exact he
theorem rchN_at (r : Nat → Nat) (k h : Nat) : ¬ rchN r k h (9 * k + h) = 0 := by
  unfold rchN upN
  by_cases h0 : r (9 * k + h) = 0
  · simp [h0]
  · rw [if_neg h0]; exact h0
theorem rchN_new (r : Nat → Nat) (k h e : Nat) (he : ¬ rchN r k h e = 0) : ¬ r e = 0 ∨ e = 9 * k + h := by
  unfold rchN upN at he
  by_cases h0 : r (9 * k + h) = 0
  · rw [if_pos h0] at he
    by_cases h1 : e = 9 * k + h
    · exact Or.inr h1
    · simp [h1] at he; exact Or.inl he
  · rw [if_neg h0] at he; exact Or.inl he
theorem rch_eq {r : Nat → Nat} {fR : Nat → Int32} (hr : ∀ e, e < 576 → fR e = nI (r e) ∧ r e ≤ 2) {k h : Nat} (hk : 9 * k + h < 576) : ∀ e, e < 576 → v_rch fR k h e = nI (rchN r k h e) ∧ rchN r k h e ≤ 2 := by
  intro e he
  unfold v_rch rchN
  have h1 := hr _ hk
  by_cases h0 : r (9 * k + h) = 0
  · rw [if_pos h0, if_pos (by rw [h1.1, h0]; rfl)]
    unfold upd upN
    by_cases h2 : e = 9 * k + h
    · rw [if_pos h2, if_pos h2]; exact ⟨rfl, by omega⟩
    · rw [if_neg h2, if_neg h2]; exact hr e he
  · rw [if_neg h0, if_neg (by rw [h1.1]; exact fun q => h0 ((nI_eq (by omega) (by omega)).mp (q : nI (r (9 * k + h)) = nI 0)))]
    exact hr e he
section
variable {kd ac : Int32} {n : Nat} {fo fn : Nat → Int32}
theorem go_ok (hn : n ≤ 64) {a b : Nat} {r : Nat → Nat} {fR fW : Nat → Int32} {u : (Nat → Int32) × (Nat → Int32)} (ha : a < n) (hb : b < 9) (hR : Rch kd ac n fo fn a b) (hI : RI kd ac n fo fn (fun e => e = 9 * a + b) r fR fW) (hG : GoR kd ac n fo fn a b fR fW u) :
    ∃ r' : Nat → Nat, RI kd ac n fo fn (fun _ => False) r' u.1 u.2 ∧ ∀ e, (r' e = 2 ↔ r e = 2) := by
  obtain ⟨i1, i2, i3, i4, i5, i6, i7⟩ := hI
  have d9 : (9 * a + b) / 9 = a := by omega
  have m9 : (9 * a + b) % 9 = b := by omega
  rcases hG with ⟨g1, rfl⟩ | ⟨g1, g2, rfl⟩ | ⟨g1, h1, k1, hh1, eh, hj, rfl⟩
  · refine ⟨r, ⟨i1, i2, i3, i4, i5, fun e he h2 _ => ?_, i7⟩, fun _ => Iff.rfl⟩
    by_cases hx : e = 9 * a + b
    · subst hx
      refine ⟨fun _ => by rw [d9]; exact i5 a ha g1, fun hc => ?_⟩
      rw [d9, m9] at hc
      exact absurd g1 (cb_facts hn ha hb hc).1
    · exact i6 e he h2 hx
  · refine ⟨r, ⟨i1, i2, fun i hi => ?_, fun i hi h => ?_, fun i hi h => ?_, fun e he h2 _ => ?_, i7⟩, fun _ => Iff.rfl⟩
    · show upd fW a 1 i = 0 ∨ upd fW a 1 i = 1
      unfold upd
      by_cases e : i = a
      · rw [if_pos e]; exact Or.inr rfl
      · rw [if_neg e]; exact i3 i hi
    · by_cases e : i = a
      · subst e; exact Or.inr ⟨b, hb, hR, g2⟩
      · have h' : upd fW a 1 i = 1 := h
        unfold upd at h'
        rw [if_neg e] at h'
        exact i4 i hi h'
    · show upd fW a 1 i = 1
      unfold upd
      by_cases e : i = a
      · rw [if_pos e]
      · rw [if_neg e]; exact i5 i hi h
    · have hw : ∀ i, fW i = 1 → upd fW a 1 i = 1 := fun i h => by
        unfold upd
        by_cases e : i = a
        · rw [if_pos e]
        · rw [if_neg e]; exact h
      by_cases hx : e = 9 * a + b
      · subst hx
        refine ⟨fun _ => by rw [d9]; show upd fW a 1 a = 1; unfold upd; rw [if_pos rfl], fun hc => ?_⟩
        rw [d9, m9] at hc
        exact absurd hc g2
      · have h6 := i6 e he h2 hx
        exact ⟨fun q => hw _ (h6.1 q), h6.2⟩
  · obtain ⟨-, -, hx, -⟩ := cb_facts hn ha hb g1
    have key : ∀ (z : Int32) (k : Nat) (q : Nat → Nat) (f : Nat → Int32), (¬ z = 0 → k < n ∧ Rch kd ac n fo fn k h1) → (∀ e, e < 576 → f e = nI (q e) ∧ q e ≤ 2) → (∀ e, e < 9 * n → ¬ q e = 0 → Rch kd ac n fo fn (e / 9) (e % 9)) →
        (∀ e, e < 576 → v_opt z k h1 f e = nI (optN z k h1 q e) ∧ optN z k h1 q e ≤ 2) ∧ (∀ e, e < 9 * n → ¬ optN z k h1 q e = 0 → Rch kd ac n fo fn (e / 9) (e % 9)) ∧ (∀ e, optN z k h1 q e = 2 ↔ q e = 2) ∧ (∀ e, ¬ q e = 0 → ¬ optN z k h1 q e = 0) ∧ (¬ z = 0 → ¬ optN z k h1 q (9 * k + h1) = 0) := by
      intro z k q f hz q1 q2
      unfold v_opt optN
      by_cases z0 : z = 0
      · rw [if_pos z0, if_pos z0]
        exact ⟨q1, q2, fun _ => Iff.rfl, fun _ h => h, fun h => absurd z0 h⟩
      · rw [if_neg z0, if_neg z0]
        obtain ⟨hk, hr⟩ := hz z0
        refine ⟨rch_eq q1 (by omega), fun e he h => ?_, rchN_2 q k h1, rchN_0 q k h1, fun _ => rchN_at q k h1⟩
        rcases rchN_new q k h1 e h with h | h
        · exact q2 e he h
        · rw [h, show (9 * k + h1) / 9 = k by omega, show (9 * k + h1) % 9 = h1 by omega]
          exact hr
    have hN : ¬ o_next (fo a) = 0 → a + 1 < n ∧ Rch kd ac n fo fn (a + 1) h1 := fun z => ⟨hx z, Rch_s ha hb hR g1 ⟨hx z, hh1, eh, Or.inl ⟨z, rfl⟩⟩⟩
    have hJ : ¬ o_jump (fo a) = 0 → k1 < n ∧ Rch kd ac n fo fn k1 h1 := fun z => ⟨(hj z).1, Rch_s ha hb hR g1 ⟨(hj z).1, hh1, eh, Or.inr ⟨z, (hj z).2⟩⟩⟩
    obtain ⟨a1, a2, a3, a4, a5⟩ := key (o_next (fo a)) (a + 1) r fR hN i1 i2
    obtain ⟨b1, b2, b3, b4, b5⟩ := key (o_jump (fo a)) k1 _ _ hJ a1 a2
    refine ⟨_, ⟨b1, b2, i3, i4, i5, fun e he h2 _ => ?_, fun h => b4 _ (a4 _ (i7 h))⟩, fun e => (b3 e).trans (a3 e)⟩
    have h2' : r e = 2 := (a3 e).mp ((b3 e).mp h2)
    by_cases hxe : e = 9 * a + b
    · subst hxe
      rw [show PrE kd ac n fo fn _ _ _ ↔ _ from Iff.rfl]
      refine ⟨fun hc => ?_, fun _ k' h' hx' => ?_⟩
      · rw [d9, m9] at hc; exact absurd g1 hc
      · rw [d9, m9] at hx'
        have hh : h' = h1 := ((nI_eq (by omega) (by have := hx'.2.1; omega)).mp (eh.symm.trans hx'.2.2.1)).symm
        subst hh
        rcases hx'.2.2.2 with q | q
        · rw [q.2]; exact b4 _ (a5 q.1)
        · have hk : k' = k1 := (nI_eq (by have := hx'.1; omega) (by have := (hj q.1).1; omega)).mp (q.2.symm.trans (hj q.1).2)
          subst hk
          exact b5 q.1
    · have h6 := i6 e he h2' hxe
      exact ⟨h6.1, fun hc k' h' hx' => b4 _ (a4 _ (h6.2 hc k' h' hx'))⟩
theorem fill_ok (h0 : 0 < n) {r : Nat → Nat} {fR fW : Nat → Int32} (hn : n ≤ 64) (hI : RI kd ac n fo fn (fun _ => False) r fR fW) (h1 : ∀ e, e < 9 * n → ¬ r e = 1) : FillR kd ac n fo fn fR fW := by
  obtain ⟨i1, i2, i3, i4, i5, i6, i7⟩ := hI
  have hz : ∀ k h, k < n → h < 9 → (¬ fR (9 * k + h) = 0 ↔ ¬ r (9 * k + h) = 0) := fun k h hk hh => by
    rw [(i1 (9 * k + h) (by omega)).1]
    have h2 := (i1 (9 * k + h) (by omega)).2
    exact ⟨fun q z => q (by rw [z]; rfl), fun q z => q ((nI_eq (by omega) (by omega)).mp (z : nI (r (9 * k + h)) = nI 0))⟩
  have hall : ∀ e, e < 9 * n → ¬ r e = 0 → PrE kd ac n fo fn r fW e := fun e he h => i6 e he (by
    have h2 := (i1 e (by omega)).2
    have h3 := h1 e he
    omega) (fun q => q)
  have hrch : ∀ k h, k < n → h < 9 → (¬ r (9 * k + h) = 0 ↔ Rch kd ac n fo fn k h) := fun k h hk hh => by
    refine ⟨fun q => ?_, fun q => ?_⟩
    · have h3 := i2 (9 * k + h) (by omega) q
      rwa [show (9 * k + h) / 9 = k by omega, show (9 * k + h) % 9 = h by omega] at h3
    · have hS := q (fun k h => k < n ∧ h < 9 ∧ ¬ r (9 * k + h) = 0) ⟨h0, by omega, i7 h0⟩ (fun k h k' h' hk hh hs hcb hx => ⟨hx.1, hx.2.1, by
        have h4 := (hall (9 * k + h) (by omega) hs.2.2).2
        rw [show (9 * k + h) / 9 = k by omega, show (9 * k + h) % 9 = h by omega] at h4
        exact h4 hcb k' h' hx⟩)
      exact hS.2.2
  refine ⟨fun k h hk hh => (hz k h hk hh).trans (hrch k h hk hh), i3, fun i hi => ⟨i4 i hi, fun hb => ?_⟩⟩
  rcases hb with hb | ⟨h, hh, hr, hc⟩
  · exact i5 i hi hb
  · have h4 := (hall (9 * i + h) (by omega) ((hrch i h hi hh).mpr hr)).1
    rw [show (9 * i + h) / 9 = i by omega, show (9 * i + h) % 9 = h by omega] at h4
    exact h4 hc
end
def cnt2 (r : Nat → Nat) : Nat := (List.range 576).countP (fun e => decide (r e = 2))
theorem cnt2_le (r : Nat → Nat) : cnt2 r ≤ 576 := by
  have h := List.countP_le_length (p := fun e => decide (r e = 2)) (l := List.range 576)
  rwa [List.length_range] at h
theorem cnt2_up {r : Nat → Nat} {k : Nat} (hk : k < 576) (h : ¬ r k = 2) : cnt2 (upN r k 2) = cnt2 r + 1 := by
  unfold cnt2
  have e := cnt_add (fun e => decide (r e = 2)) (fun e => decide (upN r k 2 e = 2)) k (by simp [h]) (fun e => by
    unfold upN
    by_cases q : e = k
    · simp [q]
    · simp [q]) 576
  rw [e, if_pos hk]
theorem cnt2_congr {r r' : Nat → Nat} (h : ∀ e, r' e = 2 ↔ r e = 2) : cnt2 r' = cnt2 r := by
  unfold cnt2
  congr 1
  funext e
  exact decide_eq_decide.mpr (h e)
end
section
/-! more of the reference, in numbers -/
theorem ix9 (a b : Nat) : 9 * nI a + nI b = nI (9 * a + b) := by rw [show (9 : Int32) = nI 9 from rfl, pk_mul, nI_add]
theorem mul9 (n : Nat) : 9 * nI n = nI (9 * n) := by rw [show (9 : Int32) = nI 9 from rfl, pk_mul]
theorem div9 {j : Nat} (h : j < 2 ^ 31) : nI j / 9 = nI (j / 9) := pk_div (d := 9) h (by omega) (by omega)
theorem rem9 {j : Nat} (h : j < 2 ^ 31) : nI j - nI j / 9 * 9 = nI (j % 9) := pk_rem (d := 9) h (by omega) (by omega)
theorem nar01 {x : Int32} (h : x = 0 ∨ x = 1) : vp_nar .boolean x = x := by
  rcases h with rfl | rfl <;> rfl
theorem i01 {c : Prop} [Decidable c] {x y : Int32} (hx : x = 0 ∨ x = 1) (hy : y = 0 ∨ y = 1) : (if c then x else y) = 0 ∨ (if c then x else y) = 1 := by
  by_cases h : c
  · rw [if_pos h]; exact hx
  · rw [if_neg h]; exact hy
theorem b01_0 : (0 : Int32) = 0 ∨ (0 : Int32) = 1 := Or.inl rfl
theorem b01_1 : (1 : Int32) = 0 ∨ (1 : Int32) = 1 := Or.inr rfl
theorem b01_14 (sz o nn : Int32) : v_b14 sz o nn = 0 ∨ v_b14 sz o nn = 1 := i01 (i01 b01_1 (i01 b01_0 b01_1)) (i01 (i01 b01_1 (i01 b01_0 b01_1)) b01_0)
theorem b01_2 (sz o nn : Int32) : v_b2 sz o nn = 0 ∨ v_b2 sz o nn = 1 := i01 (i01 b01_1 (i01 b01_0 b01_1)) (i01 (i01 b01_1 (i01 b01_0 b01_1)) (b01_14 sz o nn))
theorem b01_a (kd sz o nn : Int32) : v_b1 kd sz o nn = 0 ∨ v_b1 kd sz o nn = 1 := i01 (i01 b01_1 (i01 b01_1 (i01 (i01 b01_1 (i01 b01_1 b01_0)) b01_0))) (b01_2 sz o nn)
theorem b01_18 (kd sz o nn : Int32) : v_b18 kd sz o nn = 0 ∨ v_b18 kd sz o nn = 1 := i01 (i01 (b01_a kd sz o nn) b01_1) (b01_a kd sz o nn)
theorem bad01 (kd sz o nn : Int32) : v_bad kd sz o nn = 0 ∨ v_bad kd sz o nn = 1 := i01 b01_1 (i01 b01_1 (i01 (i01 (b01_18 kd sz o nn) b01_1) (b01_18 kd sz o nn)))
section
variable {kd ac : Int32} {n : Nat} {fo fn : Nat → Int32} {a b : Nat}
theorem fit0_needs {op h : Int32} (q : h < o_needs op kd) : p_fit kd op h = 0 := by unfold p_fit; rw [if_pos q]
theorem fit0_grow {op h : Int32} (q : 8 < h + o_grow op) : p_fit kd op h = 0 := by
  unfold p_fit
  by_cases z : h < o_needs op kd
  · rw [if_pos z]
  · rw [if_neg z, if_pos q]
theorem cbd0_fit {sz : Int32} (ha : a < 64) (q : p_fit kd (fo a) (nI b) = 0) : p_cbd kd sz ac fo fn (nI a) (nI b) = 0 := by
  unfold p_cbd
  rw [rd_in fo ha (by omega), q]
  simp
theorem cbd0_next (hn : n ≤ 64) (ha : a < n) (hx : ¬ o_next (fo a) = 0) (q : nI a + 1 = nI n) : p_cbd kd (nI n) ac fo fn (nI a) (nI b) = 0 := by
  unfold p_cbd
  rw [rd_in fo (by omega) (by omega), if_neg hx, q, show p_has (nI n) (nI n) = 0 by unfold p_has; rw [if_neg (nI_pos (by omega)), if_pos (Int32.le_refl _)], if_pos rfl]
  simp
theorem cbd1 (hn : n ≤ 64) (ha : a < n) (hw : ¬ p_wf kd (nI n) ac fo fn (nI a) = 0) (q1 : ¬ nI b < o_needs (fo a) kd) (q2 : ¬ 8 < nI b + o_grow (fo a)) (q3 : o_next (fo a) = 0 ∨ ¬ nI a + 1 = nI n) : cb kd ac n fo fn a b := by
  have hf : p_fit kd (fo a) (nI b) = 1 := by unfold p_fit; rw [if_neg q1, if_neg q2]
  unfold cb p_cbd
  rw [rd_in fo (by omega) (by omega), if_neg hw, hf]
  rcases q3 with q3 | q3
  · rw [if_pos q3]; decide
  · by_cases z : o_next (fo a) = 0
    · rw [if_pos z]; decide
    · rw [if_neg z, nI_1]
      rw [nI_1] at q3
      have h1 : a + 1 < n := by
        by_cases h : a + 1 = n
        · exact absurd (by rw [h]) q3
        · omega
      rw [has_in hn h1]; decide
end
section
variable (kd ac : Int32) (n : Nat) (fo fn : Nat → Int32)
def Bad (k : Nat) : Prop := BW kd ac n fo fn k ∨ ∃ h1 h2, h1 < 9 ∧ h2 < 9 ∧ ¬ h1 = h2 ∧ Rch kd ac n fo fn k h1 ∧ Rch kd ac n fo fn k h2
def ChkR (r : Int32) : Prop := (r = -2 ∧ ∀ k, k < n → ¬ Bad kd ac n fo fn k) ∨ ∃ k, k < n ∧ r = nI k ∧ Bad kd ac n fo fn k ∧ ∀ j, j < k → ¬ Bad kd ac n fo fn j
def HgtR (a : Nat) (r : Int32) : Prop := ∃ m, m < 512 ∧ r = nI m ∧ ∀ h, h < 9 → (m.testBit h = true ↔ Rch kd ac n fo fn a h)
end
section
variable {kd ac : Int32} {n : Nat} {fo fn : Nat → Int32}
theorem ChkR_uniq (hn : n ≤ 64) {r s : Int32} (h1 : ChkR kd ac n fo fn r) (h2 : ChkR kd ac n fo fn s) : r = s := by
  rcases h1 with ⟨rfl, a⟩ | ⟨k, hk, rfl, hb, hl⟩ <;> rcases h2 with ⟨rfl, a'⟩ | ⟨k', hk', rfl, hb', hl'⟩
  · rfl
  · exact absurd hb' (a k' hk')
  · exact absurd hb (a' k hk)
  · rcases Nat.lt_trichotomy k k' with q | q | q
    · exact absurd hb (hl' k q)
    · rw [q]
    · exact absurd hb' (hl k' q)
theorem HgtR_uniq {a : Nat} {r s : Int32} (h1 : HgtR kd ac n fo fn a r) (h2 : HgtR kd ac n fo fn a s) : r = s := by
  obtain ⟨m, hm, rfl, e⟩ := h1
  obtain ⟨m', hm', rfl, e'⟩ := h2
  have : m = m' := by
    apply Nat.eq_of_testBit_eq
    intro i
    by_cases hi : i < 9
    · have h3 := (e i hi).trans (e' i hi).symm
      cases h4 : m.testBit i <;> cases h5 : m'.testBit i <;> simp_all
    · rw [Nat.testBit_lt_two_pow (Nat.lt_of_lt_of_le hm (Nat.pow_le_pow_right (n := 2) (by omega) (by omega : 9 ≤ i))), Nat.testBit_lt_two_pow (Nat.lt_of_lt_of_le hm' (Nat.pow_le_pow_right (n := 2) (by omega) (by omega : 9 ≤ i)))]
  rw [this]
theorem init_RI (hn : n ≤ 64) (h0 : 0 < n) {g fW : Nat → Int32} (hg : ∀ i, i < 576 → g i = 0) (hw : ∀ i, i < n → fW i = if p_wf kd (nI n) ac fo fn (nI i) = 0 then 1 else 0) : RI kd ac n fo fn (fun _ => False) (fun e => if e = 0 then 1 else 0) (upd g 0 1) fW := by
  refine ⟨fun e he => ?_, fun e he h => ?_, fun i hi => ?_, fun i hi h => ?_, fun i hi h => ?_, fun e he h _ => ?_, fun _ => ?_⟩
  · show upd g 0 1 e = nI (if e = 0 then 1 else 0) ∧ (if e = 0 then 1 else 0) ≤ 2
    unfold upd
    by_cases q : e = 0
    · rw [if_pos q, if_pos q]; exact ⟨rfl, by omega⟩
    · rw [if_neg q, if_neg q]; exact ⟨hg e he, by omega⟩
  · by_cases q : e = 0
    · subst q; exact Rch_0
    · simp [q] at h
  · rw [hw i hi]; by_cases q : p_wf kd (nI n) ac fo fn (nI i) = 0
    · rw [if_pos q]; exact Or.inr rfl
    · rw [if_neg q]; exact Or.inl rfl
  · rw [hw i hi] at h
    by_cases q : p_wf kd (nI n) ac fo fn (nI i) = 0
    · exact Or.inl q
    · rw [if_neg q] at h; exact absurd h (by decide)
  · rw [hw i hi, if_pos h]
  · by_cases q : e = 0
    · simp [q] at h
    · simp [q] at h
  · simp
/-- a marked place is taken up: its mark becomes 2 -/
theorem mark_RI (hn : n ≤ 64) {r : Nat → Nat} {fR fW : Nat → Int32} {j : Nat} (hj : j < 9 * n) (hI : RI kd ac n fo fn (fun _ => False) r fR fW) (h1 : r j = 1) : RI kd ac n fo fn (fun e => e = 9 * (j / 9) + j % 9) (upN r j 2) (upd fR j 2) fW := by
  obtain ⟨i1, i2, i3, i4, i5, i6, i7⟩ := hI
  have e9 : 9 * (j / 9) + j % 9 = j := by omega
  refine ⟨fun e he => ?_, fun e he h => ?_, i3, i4, i5, fun e he h hx => ?_, fun q => ?_⟩
  · unfold upd upN
    by_cases q : e = j
    · rw [if_pos q, if_pos q]; exact ⟨rfl, by omega⟩
    · rw [if_neg q, if_neg q]; exact i1 e he
  · unfold upN at h
    by_cases q : e = j
    · subst q; exact i2 e he (by omega)
    · rw [if_neg q] at h; exact i2 e he h
  · rw [e9] at hx
    unfold upN at h
    rw [if_neg hx] at h
    have h6 := i6 e he h (fun q => q)
    refine ⟨h6.1, fun hc k' h' hn' => ?_⟩
    have h7 := h6.2 hc k' h' hn'
    unfold upN
    by_cases q : 9 * k' + h' = j
    · rw [if_pos q]; omega
    · rw [if_neg q]; exact h7
  · unfold upN
    by_cases z : 0 = j
    · rw [if_pos z]; omega
    · rw [if_neg z]; exact i7 q
end
theorem two_le (P : Nat → Bool) : ∀ N, ((List.range N).countP P ≤ 1 ↔ ∀ a b, a < N → b < N → P a = true → P b = true → a = b)
  | 0 => by simp
  | N + 1 => by
    have ih := two_le P N
    have hz : (List.range N).countP P = 0 ↔ ∀ a, a < N → ¬ P a = true := by
      rw [List.countP_eq_zero]
      exact ⟨fun h a ha => h a (List.mem_range.mpr ha), fun h a ha => h a (List.mem_range.mp ha)⟩
    rw [List.range_succ, List.countP_append]
    by_cases hp : P N = true
    · simp only [List.countP_cons, List.countP_nil, hp, if_true]
      refine ⟨fun h a b ha hb pa pb => ?_, fun h => ?_⟩
      · have h0 := hz.mp (by omega)
        by_cases qa : a = N <;> by_cases qb : b = N
        · omega
        · exact absurd pb (h0 b (by omega))
        · exact absurd pa (h0 a (by omega))
        · exact absurd pa (h0 a (by omega))
      · have h0 : (List.range N).countP P = 0 := hz.mpr (fun a ha pa => by
          have := h a N (by omega) (by omega) pa hp
          omega)
        omega
    · have hpf : P N = false := by simpa using hp
      simp only [List.countP_cons, List.countP_nil, hpf]
      refine ⟨fun h a b ha hb pa pb => ?_, fun h => ?_⟩
      · have qa : ¬ a = N := fun q => by rw [q, hpf] at pa; cases pa
        have qb : ¬ b = N := fun q => by rw [q, hpf] at pb; cases pb
        exact ih.mp (by simpa using h) a b (by omega) (by omega) pa pb
      · have := ih.mpr (fun a b ha hb => h a b (by omega) (by omega))
        simpa using this
end
