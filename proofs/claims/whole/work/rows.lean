section
-- ===== PART A: goes FIRST, ahead of the names: the tables' words, and 'selects' of the private methods out of them =====
/-- a private method of a class that the tables say can be made, by its rows of tables_1 -/
def lw_okq (q : MethodName × Nat) : Prop := (q.1.cls ≠ "java/lang/invoke/MethodHandle" ∧ q.1.cls ≠ "java/lang/invoke/VarHandle") ∧ Cond.instantiable q.1.cls q.2 ∈ tables_1 ∧ Cond.privateMethod q.1 ∈ tables_1 ∧ Cond.instanceMethod q.1 ∈ tables_1
theorem lw_p0 : lw_okq (⟨"StackJudge$Ways", "reach", "(LStackJudge$Program;II)V"⟩, 3) := ⟨⟨by decide +kernel, by decide +kernel⟩, List.mem_of_getElem? (i := 44) (by decide +kernel), List.mem_of_getElem? (i := 147) (by decide +kernel), List.mem_of_getElem? (i := 148) (by decide +kernel)⟩
theorem lw_p1 : lw_okq (⟨"StackJudge$Ways", "isReached", "(II)Z"⟩, 3) := ⟨⟨by decide +kernel, by decide +kernel⟩, List.mem_of_getElem? (i := 44) (by decide +kernel), List.mem_of_getElem? (i := 155) (by decide +kernel), List.mem_of_getElem? (i := 156) (by decide +kernel)⟩
theorem lw_p2 : lw_okq (⟨"StackJudge$Ways", "goOn", "(LStackJudge$Program;II)V"⟩, 3) := ⟨⟨by decide +kernel, by decide +kernel⟩, List.mem_of_getElem? (i := 44) (by decide +kernel), List.mem_of_getElem? (i := 163) (by decide +kernel), List.mem_of_getElem? (i := 164) (by decide +kernel)⟩
theorem lw_p3 : lw_okq (⟨"StackJudge$Program", "limitOfN", "(I)I"⟩, 5) := ⟨⟨by decide +kernel, by decide +kernel⟩, List.mem_of_getElem? (i := 18) (by decide +kernel), List.mem_of_getElem? (i := 180) (by decide +kernel), List.mem_of_getElem? (i := 181) (by decide +kernel)⟩
theorem lw_p4 : lw_okq (⟨"StackJudge$Ways", "isWrong", "(LStackJudge$Program;I)Z"⟩, 3) := ⟨⟨by decide +kernel, by decide +kernel⟩, List.mem_of_getElem? (i := 44) (by decide +kernel), List.mem_of_getElem? (i := 216) (by decide +kernel), List.mem_of_getElem? (i := 217) (by decide +kernel)⟩
theorem lw_p5 : lw_okq (⟨"StackJudge$Machine", "begin", "(III)V"⟩, 10) := ⟨⟨by decide +kernel, by decide +kernel⟩, List.mem_of_getElem? (i := 61) (by decide +kernel), List.mem_of_getElem? (i := 242) (by decide +kernel), List.mem_of_getElem? (i := 243) (by decide +kernel)⟩
theorem lw_p6 : lw_okq (⟨"StackJudge$Machine", "doOne", "(III)I"⟩, 10) := ⟨⟨by decide +kernel, by decide +kernel⟩, List.mem_of_getElem? (i := 61) (by decide +kernel), List.mem_of_getElem? (i := 250) (by decide +kernel), List.mem_of_getElem? (i := 251) (by decide +kernel)⟩
theorem lw_p7 : lw_okq (⟨"StackJudge$Machine", "pop", "()I"⟩, 10) := ⟨⟨by decide +kernel, by decide +kernel⟩, List.mem_of_getElem? (i := 61) (by decide +kernel), List.mem_of_getElem? (i := 254) (by decide +kernel), List.mem_of_getElem? (i := 255) (by decide +kernel)⟩
theorem lw_p8 : lw_okq (⟨"StackJudge$Machine", "emit", "()I"⟩, 10) := ⟨⟨by decide +kernel, by decide +kernel⟩, List.mem_of_getElem? (i := 61) (by decide +kernel), List.mem_of_getElem? (i := 259) (by decide +kernel), List.mem_of_getElem? (i := 260) (by decide +kernel)⟩
theorem lw_p9 : lw_okq (⟨"StackJudge$Machine", "move", "(II)V"⟩, 10) := ⟨⟨by decide +kernel, by decide +kernel⟩, List.mem_of_getElem? (i := 61) (by decide +kernel), List.mem_of_getElem? (i := 263) (by decide +kernel), List.mem_of_getElem? (i := 264) (by decide +kernel)⟩
theorem lw_p10 : lw_okq (⟨"StackJudge$Machine", "push", "(I)V"⟩, 10) := ⟨⟨by decide +kernel, by decide +kernel⟩, List.mem_of_getElem? (i := 61) (by decide +kernel), List.mem_of_getElem? (i := 267) (by decide +kernel), List.mem_of_getElem? (i := 268) (by decide +kernel)⟩
theorem lw_p11 : lw_okq (⟨"StackJudgeModel", "fill", "()V"⟩, 13) := ⟨⟨by decide +kernel, by decide +kernel⟩, List.mem_of_getElem? (i := 294) (by decide +kernel), List.mem_of_getElem? (i := 357) (by decide +kernel), List.mem_of_getElem? (i := 358) (by decide +kernel)⟩
theorem lw_p12 : lw_okq (⟨"StackJudgeModel", "isBad", "(I)Z"⟩, 13) := ⟨⟨by decide +kernel, by decide +kernel⟩, List.mem_of_getElem? (i := 294) (by decide +kernel), List.mem_of_getElem? (i := 361) (by decide +kernel), List.mem_of_getElem? (i := 362) (by decide +kernel)⟩
theorem lw_p13 : lw_okq (⟨"StackJudgeModel", "goOn", "(II)V"⟩, 13) := ⟨⟨by decide +kernel, by decide +kernel⟩, List.mem_of_getElem? (i := 294) (by decide +kernel), List.mem_of_getElem? (i := 365) (by decide +kernel), List.mem_of_getElem? (i := 366) (by decide +kernel)⟩
theorem lw_p14 : lw_okq (⟨"StackJudgeModel", "needs", "(I)I"⟩, 13) := ⟨⟨by decide +kernel, by decide +kernel⟩, List.mem_of_getElem? (i := 294) (by decide +kernel), List.mem_of_getElem? (i := 372) (by decide +kernel), List.mem_of_getElem? (i := 373) (by decide +kernel)⟩
theorem lw_p15 : lw_okq (⟨"StackJudgeModel", "reach", "(II)V"⟩, 13) := ⟨⟨by decide +kernel, by decide +kernel⟩, List.mem_of_getElem? (i := 294) (by decide +kernel), List.mem_of_getElem? (i := 376) (by decide +kernel), List.mem_of_getElem? (i := 377) (by decide +kernel)⟩
def lw_privs_1 : List (MethodName × Nat) := [(⟨"StackJudge$Ways", "reach", "(LStackJudge$Program;II)V"⟩, 3), (⟨"StackJudge$Ways", "isReached", "(II)Z"⟩, 3), (⟨"StackJudge$Ways", "goOn", "(LStackJudge$Program;II)V"⟩, 3), (⟨"StackJudge$Program", "limitOfN", "(I)I"⟩, 5), (⟨"StackJudge$Ways", "isWrong", "(LStackJudge$Program;I)Z"⟩, 3), (⟨"StackJudge$Machine", "begin", "(III)V"⟩, 10), (⟨"StackJudge$Machine", "doOne", "(III)I"⟩, 10), (⟨"StackJudge$Machine", "pop", "()I"⟩, 10), (⟨"StackJudge$Machine", "emit", "()I"⟩, 10), (⟨"StackJudge$Machine", "move", "(II)V"⟩, 10), (⟨"StackJudge$Machine", "push", "(I)V"⟩, 10), (⟨"StackJudgeModel", "fill", "()V"⟩, 13), (⟨"StackJudgeModel", "isBad", "(I)Z"⟩, 13), (⟨"StackJudgeModel", "goOn", "(II)V"⟩, 13), (⟨"StackJudgeModel", "needs", "(I)I"⟩, 13), (⟨"StackJudgeModel", "reach", "(II)V"⟩, 13)]
theorem lw_r1 : ∀ q ∈ lw_privs_1, lw_okq q := List.forall_mem_cons.mpr ⟨lw_p0, List.forall_mem_cons.mpr ⟨lw_p1, List.forall_mem_cons.mpr ⟨lw_p2, List.forall_mem_cons.mpr ⟨lw_p3, List.forall_mem_cons.mpr ⟨lw_p4, List.forall_mem_cons.mpr ⟨lw_p5, List.forall_mem_cons.mpr ⟨lw_p6, List.forall_mem_cons.mpr ⟨lw_p7, List.forall_mem_cons.mpr ⟨lw_p8, List.forall_mem_cons.mpr ⟨lw_p9, List.forall_mem_cons.mpr ⟨lw_p10, List.forall_mem_cons.mpr ⟨lw_p11, List.forall_mem_cons.mpr ⟨lw_p12, List.forall_mem_cons.mpr ⟨lw_p13, List.forall_mem_cons.mpr ⟨lw_p14, List.forall_mem_cons.mpr ⟨lw_p15, fun _ h => absurd h List.not_mem_nil⟩⟩⟩⟩⟩⟩⟩⟩⟩⟩⟩⟩⟩⟩⟩⟩
theorem lw_p16 : lw_okq (⟨"StackJudgeModel", "done", "(III)I"⟩, 13) := ⟨⟨by decide +kernel, by decide +kernel⟩, List.mem_of_getElem? (i := 294) (by decide +kernel), List.mem_of_getElem? (i := 389) (by decide +kernel), List.mem_of_getElem? (i := 390) (by decide +kernel)⟩
def lw_privs_2 : List (MethodName × Nat) := [(⟨"StackJudgeModel", "done", "(III)I"⟩, 13)]
theorem lw_r2 : ∀ q ∈ lw_privs_2, lw_okq q := List.forall_mem_cons.mpr ⟨lw_p16, fun _ h => absurd h List.not_mem_nil⟩
def lw_privs : List (MethodName × Nat) := lw_privs_1 ++ (lw_privs_2)
def lw_tbl : List Cond := k2_sels lw_privs ++ tables_1
theorem lw_privs_ok : ∀ q ∈ lw_privs, lw_okq q := by
  show ∀ q ∈ lw_privs_1 ++ (lw_privs_2), lw_okq q
  exact List.forall_mem_append.mpr ⟨lw_r1, lw_r2⟩
end
section
/-! words that stay: of the tables' words those that every later state keeps; what methods take as given -/
def isG (w : Cond) : Bool := (w.onTables && w.keeps) || (match w with | .arrayClass _ => true | _ => false)
theorem isG_good {w : Cond} (h : isG w = true) : (w.onTables && w.keeps) = true ∨ ∃ ty, w = .arrayClass ty := by
  unfold isG at h
  rw [Bool.or_eq_true] at h
  rcases h with h | h
  · exact Or.inl h
  · cases w <;> first | exact Or.inr ⟨_, rfl⟩ | exact absurd h Bool.false_ne_true
def gW : List Cond := lw_tbl.filter isG
theorem gW_mem (i : Nat) {w : Cond} (h : lw_tbl[i]? = some w) (hg : isG w = true) : w ∈ gW := List.mem_filter.mpr ⟨List.mem_of_getElem? h, hg⟩
theorem gW_good {w : Cond} (h : w ∈ gW) : (w.onTables && w.keeps) = true ∨ ∃ ty, w = .arrayClass ty := isG_good (List.mem_filter.mp h).2
theorem gd {c : Cond} (h : c ∈ gW) : GoodIn gW (c :: gW) := by
  intro w hw
  rcases List.mem_cons.mp hw with rfl | h1
  · exact ⟨h, gW_good h⟩
  · exact ⟨h1, gW_good h1⟩
theorem gd4 {a b c d x : Cond} (ha : a ∈ gW) (hb : b ∈ gW) (hc : c ∈ gW) (hd : d ∈ gW) (hx : x ∈ gW) : GoodIn gW (([a, b, c, d] : List Cond) ++ (x :: gW)) := by
  intro w hw
  have hm : w ∈ gW := by
    rcases List.mem_append.mp hw with h | h
    · simp only [List.mem_cons, List.not_mem_nil, or_false] at h
      rcases h with rfl | rfl | rfl | rfl <;> assumption
    · rcases List.mem_cons.mp h with rfl | h1 <;> assumption
  exact ⟨hm, gW_good hm⟩
theorem gd3 {a b c x : Cond} (ha : a ∈ gW) (hb : b ∈ gW) (hc : c ∈ gW) (hx : x ∈ gW) : GoodIn gW (([a, b, c] : List Cond) ++ (x :: gW)) := by
  intro w hw
  have hm : w ∈ gW := by
    rcases List.mem_append.mp hw with h | h
    · simp only [List.mem_cons, List.not_mem_nil, or_false] at h
      rcases h with rfl | rfl | rfl <;> assumption
    · rcases List.mem_cons.mp h with rfl | h1 <;> assumption
  exact ⟨hm, gW_good hm⟩
def R_SJ : String := "StackJudge"
def R_Program : String := "StackJudge$Program"
def R_Ways : String := "StackJudge$Ways"
def R_Machine : String := "StackJudge$Machine"
def R_Op : String := "StackJudge$Op"
def R_Model : String := "StackJudgeModel"
def R_Law : String := "StackJudgeLaw"
def R_Arrays : String := "java/util/Arrays"
def R_Integer : String := "java/lang/Integer"
abbrev b_SJ_init : ByteArray := prog_1_method_1_code
def y_SJ_init : MethodName := ⟨R_SJ, "<init>", "(I)V"⟩
abbrev b_SJ_code : ByteArray := prog_1_method_2_code
def y_SJ_code : MethodName := ⟨R_SJ, "code", "(II)I"⟩
abbrev b_SJ_clear : ByteArray := prog_1_method_3_code
def y_SJ_clear : MethodName := ⟨R_SJ, "clear", "()I"⟩
abbrev b_SJ_drop : ByteArray := prog_1_method_4_code
def y_SJ_drop : MethodName := ⟨R_SJ, "drop", "()I"⟩
abbrev b_SJ_check : ByteArray := prog_1_method_5_code
def y_SJ_check : MethodName := ⟨R_SJ, "check", "()I"⟩
abbrev b_SJ_heights : ByteArray := prog_1_method_6_code
def y_SJ_heights : MethodName := ⟨R_SJ, "heights", "(I)I"⟩
abbrev b_SJ_call : ByteArray := prog_1_method_7_code
def y_SJ_call : MethodName := ⟨R_SJ, "call", "(III)I"⟩
abbrev b_SJ_result : ByteArray := prog_1_method_8_code
def y_SJ_result : MethodName := ⟨R_SJ, "result", "()I"⟩
abbrev b_SJ_steps : ByteArray := prog_1_method_9_code
def y_SJ_steps : MethodName := ⟨R_SJ, "steps", "()I"⟩
abbrev b_SJ_pairs : ByteArray := prog_1_method_10_code
def y_SJ_pairs : MethodName := ⟨R_SJ, "pairs", "()I"⟩
abbrev b_SJ_pair : ByteArray := prog_1_method_11_code
def y_SJ_pair : MethodName := ⟨R_SJ, "pair", "(II)J"⟩
abbrev b_SJ_read : ByteArray := prog_1_method_12_code
def y_SJ_read : MethodName := ⟨R_SJ, "read", "([II)I"⟩
abbrev b_SJ_write : ByteArray := prog_1_method_13_code
def y_SJ_write : MethodName := ⟨R_SJ, "write", "([III)V"⟩
abbrev b_Model_init : ByteArray := prog_8_method_1_code
def y_Model_init : MethodName := ⟨R_Model, "<init>", "(I)V"⟩
abbrev b_Model_code : ByteArray := prog_8_method_2_code
def y_Model_code : MethodName := ⟨R_Model, "code", "(II)I"⟩
abbrev b_Model_clear : ByteArray := prog_8_method_3_code
def y_Model_clear : MethodName := ⟨R_Model, "clear", "()I"⟩
abbrev b_Model_drop : ByteArray := prog_8_method_4_code
def y_Model_drop : MethodName := ⟨R_Model, "drop", "()I"⟩
abbrev b_Model_isBad : ByteArray := prog_8_method_5_code
def y_Model_isBad : MethodName := ⟨R_Model, "isBad", "(I)Z"⟩
abbrev b_Model_needs : ByteArray := prog_8_method_6_code
def y_Model_needs : MethodName := ⟨R_Model, "needs", "(I)I"⟩
abbrev b_Model_grows : ByteArray := prog_8_method_7_code
def y_Model_grows : MethodName := ⟨R_Model, "grows", "(I)I"⟩
abbrev b_Model_reach : ByteArray := prog_8_method_8_code
def y_Model_reach : MethodName := ⟨R_Model, "reach", "(II)V"⟩
abbrev b_Model_goOn : ByteArray := prog_8_method_9_code
def y_Model_goOn : MethodName := ⟨R_Model, "goOn", "(II)V"⟩
abbrev b_Model_fill : ByteArray := prog_8_method_10_code
def y_Model_fill : MethodName := ⟨R_Model, "fill", "()V"⟩
abbrev b_Model_heights : ByteArray := prog_8_method_11_code
def y_Model_heights : MethodName := ⟨R_Model, "heights", "(I)I"⟩
abbrev b_Model_check : ByteArray := prog_8_method_12_code
def y_Model_check : MethodName := ⟨R_Model, "check", "()I"⟩
abbrev b_Model_reckoned : ByteArray := prog_8_method_13_code
def y_Model_reckoned : MethodName := ⟨R_Model, "reckoned", "(III)I"⟩
abbrev b_Model_done : ByteArray := prog_8_method_14_code
def y_Model_done : MethodName := ⟨R_Model, "done", "(III)I"⟩
abbrev b_Model_call : ByteArray := prog_8_method_15_code
def y_Model_call : MethodName := ⟨R_Model, "call", "(III)I"⟩
abbrev b_Model_result : ByteArray := prog_8_method_16_code
def y_Model_result : MethodName := ⟨R_Model, "result", "()I"⟩
abbrev b_Model_steps : ByteArray := prog_8_method_17_code
def y_Model_steps : MethodName := ⟨R_Model, "steps", "()I"⟩
abbrev b_Model_pairs : ByteArray := prog_8_method_18_code
def y_Model_pairs : MethodName := ⟨R_Model, "pairs", "()I"⟩
abbrev b_Model_pair : ByteArray := prog_8_method_19_code
def y_Model_pair : MethodName := ⟨R_Model, "pair", "(II)J"⟩
abbrev b_Machine_init : ByteArray := prog_3_method_1_code
def y_Machine_init : MethodName := ⟨R_Machine, "<init>", "()V"⟩
abbrev b_Machine_run : ByteArray := prog_3_method_2_code
def y_Machine_run : MethodName := ⟨R_Machine, "run", "(LStackJudge$Program;III)I"⟩
abbrev b_Machine_begin : ByteArray := prog_3_method_3_code
def y_Machine_begin : MethodName := ⟨R_Machine, "begin", "(III)V"⟩
abbrev b_Machine_doOne : ByteArray := prog_3_method_4_code
def y_Machine_doOne : MethodName := ⟨R_Machine, "doOne", "(III)I"⟩
abbrev b_Machine_move : ByteArray := prog_3_method_5_code
def y_Machine_move : MethodName := ⟨R_Machine, "move", "(II)V"⟩
abbrev b_Machine_combine : ByteArray := prog_3_method_6_code
def y_Machine_combine : MethodName := ⟨R_Machine, "combine", "(III)I"⟩
abbrev b_Machine_emit : ByteArray := prog_3_method_7_code
def y_Machine_emit : MethodName := ⟨R_Machine, "emit", "()I"⟩
abbrev b_Machine_push : ByteArray := prog_3_method_8_code
def y_Machine_push : MethodName := ⟨R_Machine, "push", "(I)V"⟩
abbrev b_Machine_pop : ByteArray := prog_3_method_9_code
def y_Machine_pop : MethodName := ⟨R_Machine, "pop", "()I"⟩
abbrev b_Op_isOf : ByteArray := prog_4_method_2_code
def y_Op_isOf : MethodName := ⟨R_Op, "isOf", "(II)Z"⟩
abbrev b_Op_needs : ByteArray := prog_4_method_3_code
def y_Op_needs : MethodName := ⟨R_Op, "needs", "(II)I"⟩
abbrev b_Op_growth : ByteArray := prog_4_method_4_code
def y_Op_growth : MethodName := ⟨R_Op, "growth", "(I)I"⟩
abbrev b_Op_jumps : ByteArray := prog_4_method_5_code
def y_Op_jumps : MethodName := ⟨R_Op, "jumps", "(I)Z"⟩
abbrev b_Op_hasNext : ByteArray := prog_4_method_6_code
def y_Op_hasNext : MethodName := ⟨R_Op, "hasNext", "(I)Z"⟩
abbrev b_Program_init : ByteArray := prog_5_method_1_code
def y_Program_init : MethodName := ⟨R_Program, "<init>", "(I)V"⟩
abbrev b_Program_append : ByteArray := prog_5_method_2_code
def y_Program_append : MethodName := ⟨R_Program, "append", "(II)Z"⟩
abbrev b_Program_keepFirst : ByteArray := prog_5_method_3_code
def y_Program_keepFirst : MethodName := ⟨R_Program, "keepFirst", "(I)V"⟩
abbrev b_Program_has : ByteArray := prog_5_method_4_code
def y_Program_has : MethodName := ⟨R_Program, "has", "(I)Z"⟩
abbrev b_Program_opAt : ByteArray := prog_5_method_5_code
def y_Program_opAt : MethodName := ⟨R_Program, "opAt", "(I)I"⟩
abbrev b_Program_nAt : ByteArray := prog_5_method_6_code
def y_Program_nAt : MethodName := ⟨R_Program, "nAt", "(I)I"⟩
abbrev b_Program_isWellFormed : ByteArray := prog_5_method_7_code
def y_Program_isWellFormed : MethodName := ⟨R_Program, "isWellFormed", "(I)Z"⟩
abbrev b_Program_limitOfN : ByteArray := prog_5_method_8_code
def y_Program_limitOfN : MethodName := ⟨R_Program, "limitOfN", "(I)I"⟩
abbrev b_Program_canBeDone : ByteArray := prog_5_method_9_code
def y_Program_canBeDone : MethodName := ⟨R_Program, "canBeDone", "(II)Z"⟩
abbrev b_Ways_init : ByteArray := prog_6_method_1_code
def y_Ways_init : MethodName := ⟨R_Ways, "<init>", "()V"⟩
abbrev b_Ways_follow : ByteArray := prog_6_method_2_code
def y_Ways_follow : MethodName := ⟨R_Ways, "follow", "(LStackJudge$Program;)V"⟩
abbrev b_Ways_goOn : ByteArray := prog_6_method_3_code
def y_Ways_goOn : MethodName := ⟨R_Ways, "goOn", "(LStackJudge$Program;II)V"⟩
abbrev b_Ways_reach : ByteArray := prog_6_method_4_code
def y_Ways_reach : MethodName := ⟨R_Ways, "reach", "(LStackJudge$Program;II)V"⟩
abbrev b_Ways_isReached : ByteArray := prog_6_method_5_code
def y_Ways_isReached : MethodName := ⟨R_Ways, "isReached", "(II)Z"⟩
abbrev b_Ways_firstWrong : ByteArray := prog_6_method_6_code
def y_Ways_firstWrong : MethodName := ⟨R_Ways, "firstWrong", "(LStackJudge$Program;)I"⟩
abbrev b_Ways_isWrong : ByteArray := prog_6_method_7_code
def y_Ways_isWrong : MethodName := ⟨R_Ways, "isWrong", "(LStackJudge$Program;I)Z"⟩
abbrev b_Law_cell : ByteArray := method_2_code
def y_Law_cell : MethodName := ⟨R_Law, "cell", "([II)I"⟩
abbrev b_Integer_bitCount : ByteArray := prog_9_method_49_code
def y_Integer_bitCount : MethodName := ⟨R_Integer, "bitCount", "(I)I"⟩
abbrev b_Arrays_fill : ByteArray := prog_10_method_103_code
def y_Arrays_fill : MethodName := ⟨R_Arrays, "fill", "([II)V"⟩
def F_SJ : u_T := fun k => match k with
  | 0 => (R_SJ, "program", "LStackJudge$Program;", true)
  | 1 => (R_SJ, "ways", "LStackJudge$Ways;", true)
  | _ => (R_SJ, "machine", "LStackJudge$Machine;", true)
def t_SJ : Nat → FieldType := fun k => match k with
  | 0 => .object "StackJudge$Program"
  | 1 => .object "StackJudge$Ways"
  | _ => .object "StackJudge$Machine"
theorem n_SJ : ∀ a, a < 3 → ∀ b, b < 3 → a ≠ b → (F_SJ a).2.1 ≠ (F_SJ b).2.1 := by decide +kernel
theorem t_SJ_ok : ∀ k, k < 3 → parseFieldDescriptor (F_SJ k).2.2.1 = some (t_SJ k) := by decide +kernel
def F_Program : u_T := fun k => match k with
  | 0 => (R_Program, "kind", "I", true)
  | 1 => (R_Program, "size", "I", false)
  | 2 => (R_Program, "argumentCount", "I", true)
  | 3 => (R_Program, "ops", "[I", true)
  | _ => (R_Program, "ns", "[I", true)
def t_Program : Nat → FieldType := fun k => match k with
  | 0 => .int
  | 1 => .int
  | 2 => .int
  | 3 => (.array .int)
  | _ => (.array .int)
theorem n_Program : ∀ a, a < 5 → ∀ b, b < 5 → a ≠ b → (F_Program a).2.1 ≠ (F_Program b).2.1 := by decide +kernel
theorem t_Program_ok : ∀ k, k < 5 → parseFieldDescriptor (F_Program k).2.2.1 = some (t_Program k) := by decide +kernel
def F_Ways : u_T := fun k => match k with
  | 0 => (R_Ways, "reached", "[I", true)
  | 1 => (R_Ways, "waiting", "[I", true)
  | _ => (R_Ways, "waitingCount", "I", false)
def t_Ways : Nat → FieldType := fun k => match k with
  | 0 => (.array .int)
  | 1 => (.array .int)
  | _ => .int
theorem n_Ways : ∀ a, a < 3 → ∀ b, b < 3 → a ≠ b → (F_Ways a).2.1 ≠ (F_Ways b).2.1 := by decide +kernel
theorem t_Ways_ok : ∀ k, k < 3 → parseFieldDescriptor (F_Ways k).2.2.1 = some (t_Ways k) := by decide +kernel
def F_Machine : u_T := fun k => match k with
  | 0 => (R_Machine, "latestResult", "I", false)
  | 1 => (R_Machine, "stepCount", "I", false)
  | 2 => (R_Machine, "pairCount", "I", false)
  | 3 => (R_Machine, "keys", "[I", true)
  | 4 => (R_Machine, "values", "[I", true)
  | 5 => (R_Machine, "arguments", "[I", true)
  | 6 => (R_Machine, "locals", "[I", true)
  | 7 => (R_Machine, "stack", "[I", true)
  | 8 => (R_Machine, "height", "I", false)
  | _ => (R_Machine, "at", "I", false)
def t_Machine : Nat → FieldType := fun k => match k with
  | 0 => .int
  | 1 => .int
  | 2 => .int
  | 3 => (.array .int)
  | 4 => (.array .int)
  | 5 => (.array .int)
  | 6 => (.array .int)
  | 7 => (.array .int)
  | 8 => .int
  | _ => .int
theorem n_Machine : ∀ a, a < 10 → ∀ b, b < 10 → a ≠ b → (F_Machine a).2.1 ≠ (F_Machine b).2.1 := by decide +kernel
theorem t_Machine_ok : ∀ k, k < 10 → parseFieldDescriptor (F_Machine k).2.2.1 = some (t_Machine k) := by decide +kernel
def F_Model : u_T := fun k => match k with
  | 0 => (R_Model, "kind", "I", true)
  | 1 => (R_Model, "op", "[I", true)
  | 2 => (R_Model, "number", "[I", true)
  | 3 => (R_Model, "length", "I", false)
  | 4 => (R_Model, "reached", "[I", true)
  | 5 => (R_Model, "wrong", "[Z", true)
  | 6 => (R_Model, "stack", "[I", true)
  | 7 => (R_Model, "local", "[I", true)
  | 8 => (R_Model, "key", "[I", true)
  | 9 => (R_Model, "value", "[I", true)
  | 10 => (R_Model, "emitted", "I", false)
  | 11 => (R_Model, "steps", "I", false)
  | _ => (R_Model, "result", "I", false)
def t_Model : Nat → FieldType := fun k => match k with
  | 0 => .int
  | 1 => (.array .int)
  | 2 => (.array .int)
  | 3 => .int
  | 4 => (.array .int)
  | 5 => (.array .boolean)
  | 6 => (.array .int)
  | 7 => (.array .int)
  | 8 => (.array .int)
  | 9 => (.array .int)
  | 10 => .int
  | 11 => .int
  | _ => .int
theorem n_Model : ∀ a, a < 13 → ∀ b, b < 13 → a ≠ b → (F_Model a).2.1 ≠ (F_Model b).2.1 := by decide +kernel
theorem t_Model_ok : ∀ k, k < 13 → parseFieldDescriptor (F_Model k).2.2.1 = some (t_Model k) := by decide +kernel
abbrev classes : List vw_C := [(R_SJ, F_SJ, 3), (R_Program, F_Program, 5), (R_Ways, F_Ways, 3), (R_Machine, F_Machine, 10), (R_Model, F_Model, 13)]
theorem k_0 : Cond.selects R_Ways y_Ways_reach y_Ways_reach ∈ gW := gW_mem 0 (by decide +kernel) rfl
theorem k_1 : Cond.selects R_Ways y_Ways_isReached y_Ways_isReached ∈ gW := gW_mem 1 (by decide +kernel) rfl
theorem k_2 : Cond.selects R_Ways y_Ways_goOn y_Ways_goOn ∈ gW := gW_mem 2 (by decide +kernel) rfl
theorem k_3 : Cond.selects R_Program y_Program_limitOfN y_Program_limitOfN ∈ gW := gW_mem 3 (by decide +kernel) rfl
theorem k_4 : Cond.selects R_Ways y_Ways_isWrong y_Ways_isWrong ∈ gW := gW_mem 4 (by decide +kernel) rfl
theorem k_5 : Cond.selects R_Machine y_Machine_begin y_Machine_begin ∈ gW := gW_mem 5 (by decide +kernel) rfl
theorem k_6 : Cond.selects R_Machine y_Machine_doOne y_Machine_doOne ∈ gW := gW_mem 6 (by decide +kernel) rfl
theorem k_7 : Cond.selects R_Machine y_Machine_pop y_Machine_pop ∈ gW := gW_mem 7 (by decide +kernel) rfl
theorem k_8 : Cond.selects R_Machine y_Machine_emit y_Machine_emit ∈ gW := gW_mem 8 (by decide +kernel) rfl
theorem k_9 : Cond.selects R_Machine y_Machine_move y_Machine_move ∈ gW := gW_mem 9 (by decide +kernel) rfl
theorem k_10 : Cond.selects R_Machine y_Machine_push y_Machine_push ∈ gW := gW_mem 10 (by decide +kernel) rfl
theorem k_11 : Cond.selects R_Model y_Model_fill y_Model_fill ∈ gW := gW_mem 11 (by decide +kernel) rfl
theorem k_12 : Cond.selects R_Model y_Model_isBad y_Model_isBad ∈ gW := gW_mem 12 (by decide +kernel) rfl
theorem k_13 : Cond.selects R_Model y_Model_goOn y_Model_goOn ∈ gW := gW_mem 13 (by decide +kernel) rfl
theorem k_14 : Cond.selects R_Model y_Model_needs y_Model_needs ∈ gW := gW_mem 14 (by decide +kernel) rfl
theorem k_15 : Cond.selects R_Model y_Model_reach y_Model_reach ∈ gW := gW_mem 15 (by decide +kernel) rfl
theorem k_16 : Cond.selects R_Model y_Model_done y_Model_done ∈ gW := gW_mem 16 (by decide +kernel) rfl
theorem k_17 : (Jvm.Cond.initialized "StackJudgeLaw") ∈ gW := gW_mem 17 (by decide +kernel) rfl
theorem k_18 : (Jvm.Cond.initialized "StackJudge") ∈ gW := gW_mem 18 (by decide +kernel) rfl
theorem k_19 : (Jvm.Cond.initialized "StackJudge$Program") ∈ gW := gW_mem 19 (by decide +kernel) rfl
theorem k_20 : (Jvm.Cond.initialized "StackJudge$Ways") ∈ gW := gW_mem 20 (by decide +kernel) rfl
theorem k_21 : (Jvm.Cond.initialized "StackJudge$Machine") ∈ gW := gW_mem 21 (by decide +kernel) rfl
theorem k_22 : (Jvm.Cond.initialized "StackJudgeModel") ∈ gW := gW_mem 22 (by decide +kernel) rfl
theorem k_23 : (Jvm.Cond.initialized "java/util/Arrays") ∈ gW := gW_mem 23 (by decide +kernel) rfl
theorem k_24 : (Jvm.Cond.initialized "StackJudge$Op") ∈ gW := gW_mem 24 (by decide +kernel) rfl
theorem k_25 : (Jvm.Cond.initialized "java/lang/Integer") ∈ gW := gW_mem 25 (by decide +kernel) rfl
theorem k_26 : (Jvm.Cond.classLink "StackJudgeLaw" (7 : Nat) "StackJudge") ∈ gW := gW_mem 26 (by decide +kernel) rfl
theorem k_27 : (Jvm.Cond.instantiable "StackJudge" (3 : Nat)) ∈ gW := gW_mem 27 (by decide +kernel) rfl
theorem k_28 : (Jvm.Cond.methodLink "StackJudgeLaw" (15 : Nat) ({ cls := "StackJudge", name := "<init>", desc := "(I)V" } : Jvm.MethodName)) ∈ gW := gW_mem 28 (by decide +kernel) rfl
theorem k_29 : (Jvm.Cond.instanceMethod ({ cls := "StackJudge", name := "<init>", desc := "(I)V" } : Jvm.MethodName)) ∈ gW := gW_mem 29 (by decide +kernel) rfl
theorem k_30 : (Jvm.Cond.code ({ cls := "StackJudge", name := "<init>", desc := "(I)V" } : Jvm.MethodName) prog_1_method_1_code (2 : Nat) (Option.none : Option Jvm.ClassFile.FieldType)) ∈ gW := gW_mem 30 (by decide +kernel) rfl
theorem k_31 : (Jvm.Cond.methodLink "StackJudge" (1 : Nat) ({ cls := "java/lang/Object", name := "<init>", desc := "()V" } : Jvm.MethodName)) ∈ gW := gW_mem 31 (by decide +kernel) rfl
theorem k_32 : (Jvm.Cond.instanceMethod ({ cls := "java/lang/Object", name := "<init>", desc := "()V" } : Jvm.MethodName)) ∈ gW := gW_mem 32 (by decide +kernel) rfl
theorem k_33 : (Jvm.Cond.code ({ cls := "java/lang/Object", name := "<init>", desc := "()V" } : Jvm.MethodName) object_method_1_code (1 : Nat) (Option.none : Option Jvm.ClassFile.FieldType)) ∈ gW := gW_mem 33 (by decide +kernel) rfl
theorem k_34 : (Jvm.Cond.classLink "StackJudge" (7 : Nat) "StackJudge$Program") ∈ gW := gW_mem 34 (by decide +kernel) rfl
theorem k_35 : (Jvm.Cond.instantiable "StackJudge$Program" (5 : Nat)) ∈ gW := gW_mem 35 (by decide +kernel) rfl
theorem k_36 : (Jvm.Cond.methodLink "StackJudge" (9 : Nat) ({ cls := "StackJudge$Program", name := "<init>", desc := "(I)V" } : Jvm.MethodName)) ∈ gW := gW_mem 36 (by decide +kernel) rfl
theorem k_37 : (Jvm.Cond.instanceMethod ({ cls := "StackJudge$Program", name := "<init>", desc := "(I)V" } : Jvm.MethodName)) ∈ gW := gW_mem 37 (by decide +kernel) rfl
theorem k_38 : (Jvm.Cond.code ({ cls := "StackJudge$Program", name := "<init>", desc := "(I)V" } : Jvm.MethodName) prog_5_method_1_code (2 : Nat) (Option.none : Option Jvm.ClassFile.FieldType)) ∈ gW := gW_mem 38 (by decide +kernel) rfl
theorem k_39 : (Jvm.Cond.methodLink "StackJudge$Program" (3 : Nat) ({ cls := "java/lang/Object", name := "<init>", desc := "()V" } : Jvm.MethodName)) ∈ gW := gW_mem 39 (by decide +kernel) rfl
theorem k_40 : (Jvm.Cond.fieldLink "StackJudge$Program" (18 : Nat) "StackJudge$Program" "kind" "I") ∈ gW := gW_mem 40 (by decide +kernel) rfl
theorem k_41 : (Jvm.Cond.fieldLink "StackJudge$Machine" (47 : Nat) "StackJudge$Program" "kind" "I") ∈ gW := gW_mem 41 (by decide +kernel) rfl
theorem k_42 : (Jvm.Cond.fieldLink "StackJudge$Program" (27 : Nat) "StackJudge$Program" "size" "I") ∈ gW := gW_mem 42 (by decide +kernel) rfl
theorem k_43 : (Jvm.Cond.fieldLink "StackJudge" (36 : Nat) "StackJudge$Program" "size" "I") ∈ gW := gW_mem 43 (by decide +kernel) rfl
theorem k_44 : (Jvm.Cond.fieldLink "StackJudge$Ways" (74 : Nat) "StackJudge$Program" "size" "I") ∈ gW := gW_mem 44 (by decide +kernel) rfl
theorem k_45 : (Jvm.Cond.fieldLink "StackJudge$Program" (24 : Nat) "StackJudge$Program" "argumentCount" "I") ∈ gW := gW_mem 45 (by decide +kernel) rfl
theorem k_46 : (Jvm.Cond.fieldLink "StackJudge$Program" (9 : Nat) "StackJudge$Program" "ops" "[I") ∈ gW := gW_mem 46 (by decide +kernel) rfl
theorem k_47 : (Jvm.Cond.fieldLink "StackJudge$Program" (15 : Nat) "StackJudge$Program" "ns" "[I") ∈ gW := gW_mem 47 (by decide +kernel) rfl
theorem k_48 : (Jvm.Cond.laysFinal "StackJudge$Program" "StackJudge$Program" "kind" "I") ∈ gW := gW_mem 48 (by decide +kernel) rfl
theorem k_50 : (Jvm.Cond.lays "StackJudge$Program" "StackJudge$Program" "size" "I") ∈ gW := gW_mem 50 (by decide +kernel) rfl
theorem k_52 : (Jvm.Cond.laysFinal "StackJudge$Program" "StackJudge$Program" "argumentCount" "I") ∈ gW := gW_mem 52 (by decide +kernel) rfl
theorem k_54 : (Jvm.Cond.laysFinal "StackJudge$Program" "StackJudge$Program" "ops" "[I") ∈ gW := gW_mem 54 (by decide +kernel) rfl
theorem k_56 : (Jvm.Cond.laysFinal "StackJudge$Program" "StackJudge$Program" "ns" "[I") ∈ gW := gW_mem 56 (by decide +kernel) rfl
theorem k_59 : (Jvm.Cond.arrayClass Jvm.ClassFile.FieldType.int) ∈ gW := gW_mem 59 (by decide +kernel) rfl
theorem k_60 : (Jvm.Cond.classLink "StackJudge" (18 : Nat) "StackJudge$Ways") ∈ gW := gW_mem 60 (by decide +kernel) rfl
theorem k_61 : (Jvm.Cond.instantiable "StackJudge$Ways" (3 : Nat)) ∈ gW := gW_mem 61 (by decide +kernel) rfl
theorem k_63 : (Jvm.Cond.instanceMethod ({ cls := "StackJudge$Ways", name := "<init>", desc := "()V" } : Jvm.MethodName)) ∈ gW := gW_mem 63 (by decide +kernel) rfl
theorem k_64 : (Jvm.Cond.code ({ cls := "StackJudge$Ways", name := "<init>", desc := "()V" } : Jvm.MethodName) prog_6_method_1_code (1 : Nat) (Option.none : Option Jvm.ClassFile.FieldType)) ∈ gW := gW_mem 64 (by decide +kernel) rfl
theorem k_65 : (Jvm.Cond.methodLink "StackJudge$Ways" (3 : Nat) ({ cls := "java/lang/Object", name := "<init>", desc := "()V" } : Jvm.MethodName)) ∈ gW := gW_mem 65 (by decide +kernel) rfl
theorem k_66 : (Jvm.Cond.fieldLink "StackJudge$Ways" (9 : Nat) "StackJudge$Ways" "reached" "[I") ∈ gW := gW_mem 66 (by decide +kernel) rfl
theorem k_67 : (Jvm.Cond.fieldLink "StackJudge" (55 : Nat) "StackJudge$Ways" "reached" "[I") ∈ gW := gW_mem 67 (by decide +kernel) rfl
theorem k_68 : (Jvm.Cond.fieldLink "StackJudge$Ways" (15 : Nat) "StackJudge$Ways" "waiting" "[I") ∈ gW := gW_mem 68 (by decide +kernel) rfl
theorem k_69 : (Jvm.Cond.fieldLink "StackJudge$Ways" (24 : Nat) "StackJudge$Ways" "waitingCount" "I") ∈ gW := gW_mem 69 (by decide +kernel) rfl
theorem k_70 : (Jvm.Cond.laysFinal "StackJudge$Ways" "StackJudge$Ways" "reached" "[I") ∈ gW := gW_mem 70 (by decide +kernel) rfl
theorem k_72 : (Jvm.Cond.laysFinal "StackJudge$Ways" "StackJudge$Ways" "waiting" "[I") ∈ gW := gW_mem 72 (by decide +kernel) rfl
theorem k_74 : (Jvm.Cond.lays "StackJudge$Ways" "StackJudge$Ways" "waitingCount" "I") ∈ gW := gW_mem 74 (by decide +kernel) rfl
theorem k_77 : (Jvm.Cond.classLink "StackJudge" (25 : Nat) "StackJudge$Machine") ∈ gW := gW_mem 77 (by decide +kernel) rfl
theorem k_78 : (Jvm.Cond.instantiable "StackJudge$Machine" (10 : Nat)) ∈ gW := gW_mem 78 (by decide +kernel) rfl
theorem k_80 : (Jvm.Cond.instanceMethod ({ cls := "StackJudge$Machine", name := "<init>", desc := "()V" } : Jvm.MethodName)) ∈ gW := gW_mem 80 (by decide +kernel) rfl
theorem k_81 : (Jvm.Cond.code ({ cls := "StackJudge$Machine", name := "<init>", desc := "()V" } : Jvm.MethodName) prog_3_method_1_code (1 : Nat) (Option.none : Option Jvm.ClassFile.FieldType)) ∈ gW := gW_mem 81 (by decide +kernel) rfl
theorem k_82 : (Jvm.Cond.methodLink "StackJudge$Machine" (3 : Nat) ({ cls := "java/lang/Object", name := "<init>", desc := "()V" } : Jvm.MethodName)) ∈ gW := gW_mem 82 (by decide +kernel) rfl
theorem k_83 : (Jvm.Cond.fieldLink "StackJudge$Machine" (70 : Nat) "StackJudge$Machine" "latestResult" "I") ∈ gW := gW_mem 83 (by decide +kernel) rfl
theorem k_84 : (Jvm.Cond.fieldLink "StackJudge" (71 : Nat) "StackJudge$Machine" "latestResult" "I") ∈ gW := gW_mem 84 (by decide +kernel) rfl
theorem k_85 : (Jvm.Cond.fieldLink "StackJudge$Machine" (31 : Nat) "StackJudge$Machine" "stepCount" "I") ∈ gW := gW_mem 85 (by decide +kernel) rfl
theorem k_86 : (Jvm.Cond.fieldLink "StackJudge" (74 : Nat) "StackJudge$Machine" "stepCount" "I") ∈ gW := gW_mem 86 (by decide +kernel) rfl
theorem k_87 : (Jvm.Cond.fieldLink "StackJudge$Machine" (54 : Nat) "StackJudge$Machine" "pairCount" "I") ∈ gW := gW_mem 87 (by decide +kernel) rfl
theorem k_88 : (Jvm.Cond.fieldLink "StackJudge" (77 : Nat) "StackJudge$Machine" "pairCount" "I") ∈ gW := gW_mem 88 (by decide +kernel) rfl
theorem k_89 : (Jvm.Cond.fieldLink "StackJudge$Machine" (9 : Nat) "StackJudge$Machine" "keys" "[I") ∈ gW := gW_mem 89 (by decide +kernel) rfl
theorem k_90 : (Jvm.Cond.fieldLink "StackJudge" (82 : Nat) "StackJudge$Machine" "keys" "[I") ∈ gW := gW_mem 90 (by decide +kernel) rfl
theorem k_91 : (Jvm.Cond.fieldLink "StackJudge$Machine" (15 : Nat) "StackJudge$Machine" "values" "[I") ∈ gW := gW_mem 91 (by decide +kernel) rfl
theorem k_92 : (Jvm.Cond.fieldLink "StackJudge" (85 : Nat) "StackJudge$Machine" "values" "[I") ∈ gW := gW_mem 92 (by decide +kernel) rfl
theorem k_93 : (Jvm.Cond.fieldLink "StackJudge$Machine" (18 : Nat) "StackJudge$Machine" "arguments" "[I") ∈ gW := gW_mem 93 (by decide +kernel) rfl
theorem k_94 : (Jvm.Cond.fieldLink "StackJudge$Machine" (21 : Nat) "StackJudge$Machine" "locals" "[I") ∈ gW := gW_mem 94 (by decide +kernel) rfl
theorem k_95 : (Jvm.Cond.fieldLink "StackJudge$Machine" (24 : Nat) "StackJudge$Machine" "stack" "[I") ∈ gW := gW_mem 95 (by decide +kernel) rfl
theorem k_96 : (Jvm.Cond.fieldLink "StackJudge$Machine" (67 : Nat) "StackJudge$Machine" "height" "I") ∈ gW := gW_mem 96 (by decide +kernel) rfl
theorem k_97 : (Jvm.Cond.fieldLink "StackJudge$Machine" (35 : Nat) "StackJudge$Machine" "at" "I") ∈ gW := gW_mem 97 (by decide +kernel) rfl
theorem k_98 : (Jvm.Cond.lays "StackJudge$Machine" "StackJudge$Machine" "latestResult" "I") ∈ gW := gW_mem 98 (by decide +kernel) rfl
theorem k_100 : (Jvm.Cond.lays "StackJudge$Machine" "StackJudge$Machine" "stepCount" "I") ∈ gW := gW_mem 100 (by decide +kernel) rfl
theorem k_102 : (Jvm.Cond.lays "StackJudge$Machine" "StackJudge$Machine" "pairCount" "I") ∈ gW := gW_mem 102 (by decide +kernel) rfl
theorem k_104 : (Jvm.Cond.laysFinal "StackJudge$Machine" "StackJudge$Machine" "keys" "[I") ∈ gW := gW_mem 104 (by decide +kernel) rfl
theorem k_106 : (Jvm.Cond.laysFinal "StackJudge$Machine" "StackJudge$Machine" "values" "[I") ∈ gW := gW_mem 106 (by decide +kernel) rfl
theorem k_108 : (Jvm.Cond.laysFinal "StackJudge$Machine" "StackJudge$Machine" "arguments" "[I") ∈ gW := gW_mem 108 (by decide +kernel) rfl
theorem k_110 : (Jvm.Cond.laysFinal "StackJudge$Machine" "StackJudge$Machine" "locals" "[I") ∈ gW := gW_mem 110 (by decide +kernel) rfl
theorem k_112 : (Jvm.Cond.laysFinal "StackJudge$Machine" "StackJudge$Machine" "stack" "[I") ∈ gW := gW_mem 112 (by decide +kernel) rfl
theorem k_114 : (Jvm.Cond.lays "StackJudge$Machine" "StackJudge$Machine" "height" "I") ∈ gW := gW_mem 114 (by decide +kernel) rfl
theorem k_116 : (Jvm.Cond.lays "StackJudge$Machine" "StackJudge$Machine" "at" "I") ∈ gW := gW_mem 116 (by decide +kernel) rfl
theorem k_119 : (Jvm.Cond.fieldLink "StackJudge" (12 : Nat) "StackJudge" "program" "LStackJudge$Program;") ∈ gW := gW_mem 119 (by decide +kernel) rfl
theorem k_120 : (Jvm.Cond.fieldLink "StackJudge" (21 : Nat) "StackJudge" "ways" "LStackJudge$Ways;") ∈ gW := gW_mem 120 (by decide +kernel) rfl
theorem k_121 : (Jvm.Cond.fieldLink "StackJudge" (28 : Nat) "StackJudge" "machine" "LStackJudge$Machine;") ∈ gW := gW_mem 121 (by decide +kernel) rfl
theorem k_122 : (Jvm.Cond.laysFinal "StackJudge" "StackJudge" "program" "LStackJudge$Program;") ∈ gW := gW_mem 122 (by decide +kernel) rfl
theorem k_124 : (Jvm.Cond.laysFinal "StackJudge" "StackJudge" "ways" "LStackJudge$Ways;") ∈ gW := gW_mem 124 (by decide +kernel) rfl
theorem k_126 : (Jvm.Cond.laysFinal "StackJudge" "StackJudge" "machine" "LStackJudge$Machine;") ∈ gW := gW_mem 126 (by decide +kernel) rfl
theorem k_129 : (Jvm.Cond.methodLink "StackJudgeLaw" (21 : Nat) ({ cls := "StackJudge", name := "code", desc := "(II)I" } : Jvm.MethodName)) ∈ gW := gW_mem 129 (by decide +kernel) rfl
theorem k_130 : (Jvm.Cond.instanceMethod ({ cls := "StackJudge", name := "code", desc := "(II)I" } : Jvm.MethodName)) ∈ gW := gW_mem 130 (by decide +kernel) rfl
theorem k_131 : (Jvm.Cond.selects "StackJudge" ({ cls := "StackJudge", name := "code", desc := "(II)I" } : Jvm.MethodName) ({ cls := "StackJudge", name := "code", desc := "(II)I" } : Jvm.MethodName)) ∈ gW := gW_mem 131 (by decide +kernel) rfl
theorem k_132 : (Jvm.Cond.code ({ cls := "StackJudge", name := "code", desc := "(II)I" } : Jvm.MethodName) prog_1_method_2_code (3 : Nat) (Option.some Jvm.ClassFile.FieldType.int)) ∈ gW := gW_mem 132 (by decide +kernel) rfl
theorem k_133 : (Jvm.Cond.methodLink "StackJudge" (32 : Nat) ({ cls := "StackJudge$Program", name := "append", desc := "(II)Z" } : Jvm.MethodName)) ∈ gW := gW_mem 133 (by decide +kernel) rfl
theorem k_134 : (Jvm.Cond.instanceMethod ({ cls := "StackJudge$Program", name := "append", desc := "(II)Z" } : Jvm.MethodName)) ∈ gW := gW_mem 134 (by decide +kernel) rfl
theorem k_135 : (Jvm.Cond.selects "StackJudge$Program" ({ cls := "StackJudge$Program", name := "append", desc := "(II)Z" } : Jvm.MethodName) ({ cls := "StackJudge$Program", name := "append", desc := "(II)Z" } : Jvm.MethodName)) ∈ gW := gW_mem 135 (by decide +kernel) rfl
theorem k_136 : (Jvm.Cond.code ({ cls := "StackJudge$Program", name := "append", desc := "(II)Z" } : Jvm.MethodName) prog_5_method_2_code (3 : Nat) (Option.some Jvm.ClassFile.FieldType.boolean)) ∈ gW := gW_mem 136 (by decide +kernel) rfl
theorem k_138 : (Jvm.Cond.static ({ cls := "StackJudge", name := "write", desc := "([III)V" } : Jvm.MethodName)) ∈ gW := gW_mem 138 (by decide +kernel) rfl
theorem k_139 : (Jvm.Cond.code ({ cls := "StackJudge", name := "write", desc := "([III)V" } : Jvm.MethodName) prog_1_method_13_code (3 : Nat) (Option.none : Option Jvm.ClassFile.FieldType)) ∈ gW := gW_mem 139 (by decide +kernel) rfl
theorem k_140 : (Jvm.Cond.methodLink "StackJudgeLaw" (26 : Nat) ({ cls := "StackJudge", name := "clear", desc := "()I" } : Jvm.MethodName)) ∈ gW := gW_mem 140 (by decide +kernel) rfl
theorem k_141 : (Jvm.Cond.instanceMethod ({ cls := "StackJudge", name := "clear", desc := "()I" } : Jvm.MethodName)) ∈ gW := gW_mem 141 (by decide +kernel) rfl
theorem k_142 : (Jvm.Cond.selects "StackJudge" ({ cls := "StackJudge", name := "clear", desc := "()I" } : Jvm.MethodName) ({ cls := "StackJudge", name := "clear", desc := "()I" } : Jvm.MethodName)) ∈ gW := gW_mem 142 (by decide +kernel) rfl
theorem k_143 : (Jvm.Cond.code ({ cls := "StackJudge", name := "clear", desc := "()I" } : Jvm.MethodName) prog_1_method_3_code (2 : Nat) (Option.some Jvm.ClassFile.FieldType.int)) ∈ gW := gW_mem 143 (by decide +kernel) rfl
theorem k_144 : (Jvm.Cond.methodLink "StackJudge" (40 : Nat) ({ cls := "StackJudge$Program", name := "keepFirst", desc := "(I)V" } : Jvm.MethodName)) ∈ gW := gW_mem 144 (by decide +kernel) rfl
theorem k_145 : (Jvm.Cond.instanceMethod ({ cls := "StackJudge$Program", name := "keepFirst", desc := "(I)V" } : Jvm.MethodName)) ∈ gW := gW_mem 145 (by decide +kernel) rfl
theorem k_146 : (Jvm.Cond.selects "StackJudge$Program" ({ cls := "StackJudge$Program", name := "keepFirst", desc := "(I)V" } : Jvm.MethodName) ({ cls := "StackJudge$Program", name := "keepFirst", desc := "(I)V" } : Jvm.MethodName)) ∈ gW := gW_mem 146 (by decide +kernel) rfl
theorem k_147 : (Jvm.Cond.code ({ cls := "StackJudge$Program", name := "keepFirst", desc := "(I)V" } : Jvm.MethodName) prog_5_method_3_code (2 : Nat) (Option.none : Option Jvm.ClassFile.FieldType)) ∈ gW := gW_mem 147 (by decide +kernel) rfl
theorem k_148 : (Jvm.Cond.methodLink "StackJudgeLaw" (31 : Nat) ({ cls := "StackJudge", name := "drop", desc := "()I" } : Jvm.MethodName)) ∈ gW := gW_mem 148 (by decide +kernel) rfl
theorem k_149 : (Jvm.Cond.instanceMethod ({ cls := "StackJudge", name := "drop", desc := "()I" } : Jvm.MethodName)) ∈ gW := gW_mem 149 (by decide +kernel) rfl
theorem k_150 : (Jvm.Cond.selects "StackJudge" ({ cls := "StackJudge", name := "drop", desc := "()I" } : Jvm.MethodName) ({ cls := "StackJudge", name := "drop", desc := "()I" } : Jvm.MethodName)) ∈ gW := gW_mem 150 (by decide +kernel) rfl
theorem k_151 : (Jvm.Cond.code ({ cls := "StackJudge", name := "drop", desc := "()I" } : Jvm.MethodName) prog_1_method_4_code (1 : Nat) (Option.some Jvm.ClassFile.FieldType.int)) ∈ gW := gW_mem 151 (by decide +kernel) rfl
theorem k_152 : (Jvm.Cond.methodLink "StackJudgeLaw" (35 : Nat) ({ cls := "StackJudge", name := "check", desc := "()I" } : Jvm.MethodName)) ∈ gW := gW_mem 152 (by decide +kernel) rfl
theorem k_153 : (Jvm.Cond.instanceMethod ({ cls := "StackJudge", name := "check", desc := "()I" } : Jvm.MethodName)) ∈ gW := gW_mem 153 (by decide +kernel) rfl
theorem k_154 : (Jvm.Cond.selects "StackJudge" ({ cls := "StackJudge", name := "check", desc := "()I" } : Jvm.MethodName) ({ cls := "StackJudge", name := "check", desc := "()I" } : Jvm.MethodName)) ∈ gW := gW_mem 154 (by decide +kernel) rfl
theorem k_155 : (Jvm.Cond.code ({ cls := "StackJudge", name := "check", desc := "()I" } : Jvm.MethodName) prog_1_method_5_code (1 : Nat) (Option.some Jvm.ClassFile.FieldType.int)) ∈ gW := gW_mem 155 (by decide +kernel) rfl
theorem k_156 : (Jvm.Cond.methodLink "StackJudge" (43 : Nat) ({ cls := "StackJudge$Ways", name := "follow", desc := "(LStackJudge$Program;)V" } : Jvm.MethodName)) ∈ gW := gW_mem 156 (by decide +kernel) rfl
theorem k_157 : (Jvm.Cond.instanceMethod ({ cls := "StackJudge$Ways", name := "follow", desc := "(LStackJudge$Program;)V" } : Jvm.MethodName)) ∈ gW := gW_mem 157 (by decide +kernel) rfl
theorem k_158 : (Jvm.Cond.selects "StackJudge$Ways" ({ cls := "StackJudge$Ways", name := "follow", desc := "(LStackJudge$Program;)V" } : Jvm.MethodName) ({ cls := "StackJudge$Ways", name := "follow", desc := "(LStackJudge$Program;)V" } : Jvm.MethodName)) ∈ gW := gW_mem 158 (by decide +kernel) rfl
theorem k_159 : (Jvm.Cond.code ({ cls := "StackJudge$Ways", name := "follow", desc := "(LStackJudge$Program;)V" } : Jvm.MethodName) prog_6_method_2_code (4 : Nat) (Option.none : Option Jvm.ClassFile.FieldType)) ∈ gW := gW_mem 159 (by decide +kernel) rfl
theorem k_160 : (Jvm.Cond.methodLink "StackJudge$Ways" (18 : Nat) ({ cls := "java/util/Arrays", name := "fill", desc := "([II)V" } : Jvm.MethodName)) ∈ gW := gW_mem 160 (by decide +kernel) rfl
theorem k_161 : (Jvm.Cond.static ({ cls := "java/util/Arrays", name := "fill", desc := "([II)V" } : Jvm.MethodName)) ∈ gW := gW_mem 161 (by decide +kernel) rfl
theorem k_162 : (Jvm.Cond.code ({ cls := "java/util/Arrays", name := "fill", desc := "([II)V" } : Jvm.MethodName) prog_10_method_103_code (4 : Nat) (Option.none : Option Jvm.ClassFile.FieldType)) ∈ gW := gW_mem 162 (by decide +kernel) rfl
theorem k_163 : (Jvm.Cond.methodLink "StackJudge$Ways" (28 : Nat) ({ cls := "StackJudge$Ways", name := "reach", desc := "(LStackJudge$Program;II)V" } : Jvm.MethodName)) ∈ gW := gW_mem 163 (by decide +kernel) rfl
theorem k_165 : (Jvm.Cond.instanceMethod ({ cls := "StackJudge$Ways", name := "reach", desc := "(LStackJudge$Program;II)V" } : Jvm.MethodName)) ∈ gW := gW_mem 165 (by decide +kernel) rfl
theorem k_166 : (Jvm.Cond.code ({ cls := "StackJudge$Ways", name := "reach", desc := "(LStackJudge$Program;II)V" } : Jvm.MethodName) prog_6_method_4_code (4 : Nat) (Option.none : Option Jvm.ClassFile.FieldType)) ∈ gW := gW_mem 166 (by decide +kernel) rfl
theorem k_167 : (Jvm.Cond.methodLink "StackJudge$Ways" (64 : Nat) ({ cls := "StackJudge$Program", name := "has", desc := "(I)Z" } : Jvm.MethodName)) ∈ gW := gW_mem 167 (by decide +kernel) rfl
theorem k_168 : (Jvm.Cond.instanceMethod ({ cls := "StackJudge$Program", name := "has", desc := "(I)Z" } : Jvm.MethodName)) ∈ gW := gW_mem 168 (by decide +kernel) rfl
theorem k_169 : (Jvm.Cond.selects "StackJudge$Program" ({ cls := "StackJudge$Program", name := "has", desc := "(I)Z" } : Jvm.MethodName) ({ cls := "StackJudge$Program", name := "has", desc := "(I)Z" } : Jvm.MethodName)) ∈ gW := gW_mem 169 (by decide +kernel) rfl
theorem k_170 : (Jvm.Cond.code ({ cls := "StackJudge$Program", name := "has", desc := "(I)Z" } : Jvm.MethodName) prog_5_method_4_code (2 : Nat) (Option.some Jvm.ClassFile.FieldType.boolean)) ∈ gW := gW_mem 170 (by decide +kernel) rfl
theorem k_171 : (Jvm.Cond.methodLink "StackJudge$Ways" (67 : Nat) ({ cls := "StackJudge$Ways", name := "isReached", desc := "(II)Z" } : Jvm.MethodName)) ∈ gW := gW_mem 171 (by decide +kernel) rfl
theorem k_173 : (Jvm.Cond.instanceMethod ({ cls := "StackJudge$Ways", name := "isReached", desc := "(II)Z" } : Jvm.MethodName)) ∈ gW := gW_mem 173 (by decide +kernel) rfl
theorem k_174 : (Jvm.Cond.code ({ cls := "StackJudge$Ways", name := "isReached", desc := "(II)Z" } : Jvm.MethodName) prog_6_method_5_code (3 : Nat) (Option.some Jvm.ClassFile.FieldType.boolean)) ∈ gW := gW_mem 174 (by decide +kernel) rfl
theorem k_176 : (Jvm.Cond.static ({ cls := "StackJudge", name := "read", desc := "([II)I" } : Jvm.MethodName)) ∈ gW := gW_mem 176 (by decide +kernel) rfl
theorem k_177 : (Jvm.Cond.code ({ cls := "StackJudge", name := "read", desc := "([II)I" } : Jvm.MethodName) prog_1_method_12_code (2 : Nat) (Option.some Jvm.ClassFile.FieldType.int)) ∈ gW := gW_mem 177 (by decide +kernel) rfl
theorem k_179 : (Jvm.Cond.methodLink "StackJudge$Ways" (36 : Nat) ({ cls := "StackJudge$Ways", name := "goOn", desc := "(LStackJudge$Program;II)V" } : Jvm.MethodName)) ∈ gW := gW_mem 179 (by decide +kernel) rfl
theorem k_181 : (Jvm.Cond.instanceMethod ({ cls := "StackJudge$Ways", name := "goOn", desc := "(LStackJudge$Program;II)V" } : Jvm.MethodName)) ∈ gW := gW_mem 181 (by decide +kernel) rfl
theorem k_182 : (Jvm.Cond.code ({ cls := "StackJudge$Ways", name := "goOn", desc := "(LStackJudge$Program;II)V" } : Jvm.MethodName) prog_6_method_3_code (6 : Nat) (Option.none : Option Jvm.ClassFile.FieldType)) ∈ gW := gW_mem 182 (by decide +kernel) rfl
theorem k_183 : (Jvm.Cond.methodLink "StackJudge$Ways" (39 : Nat) ({ cls := "StackJudge$Program", name := "canBeDone", desc := "(II)Z" } : Jvm.MethodName)) ∈ gW := gW_mem 183 (by decide +kernel) rfl
theorem k_184 : (Jvm.Cond.instanceMethod ({ cls := "StackJudge$Program", name := "canBeDone", desc := "(II)Z" } : Jvm.MethodName)) ∈ gW := gW_mem 184 (by decide +kernel) rfl
theorem k_185 : (Jvm.Cond.selects "StackJudge$Program" ({ cls := "StackJudge$Program", name := "canBeDone", desc := "(II)Z" } : Jvm.MethodName) ({ cls := "StackJudge$Program", name := "canBeDone", desc := "(II)Z" } : Jvm.MethodName)) ∈ gW := gW_mem 185 (by decide +kernel) rfl
theorem k_186 : (Jvm.Cond.code ({ cls := "StackJudge$Program", name := "canBeDone", desc := "(II)Z" } : Jvm.MethodName) prog_5_method_9_code (4 : Nat) (Option.some Jvm.ClassFile.FieldType.boolean)) ∈ gW := gW_mem 186 (by decide +kernel) rfl
theorem k_187 : (Jvm.Cond.methodLink "StackJudge$Program" (48 : Nat) ({ cls := "StackJudge$Program", name := "opAt", desc := "(I)I" } : Jvm.MethodName)) ∈ gW := gW_mem 187 (by decide +kernel) rfl
theorem k_188 : (Jvm.Cond.instanceMethod ({ cls := "StackJudge$Program", name := "opAt", desc := "(I)I" } : Jvm.MethodName)) ∈ gW := gW_mem 188 (by decide +kernel) rfl
theorem k_189 : (Jvm.Cond.selects "StackJudge$Program" ({ cls := "StackJudge$Program", name := "opAt", desc := "(I)I" } : Jvm.MethodName) ({ cls := "StackJudge$Program", name := "opAt", desc := "(I)I" } : Jvm.MethodName)) ∈ gW := gW_mem 189 (by decide +kernel) rfl
theorem k_190 : (Jvm.Cond.code ({ cls := "StackJudge$Program", name := "opAt", desc := "(I)I" } : Jvm.MethodName) prog_5_method_5_code (2 : Nat) (Option.some Jvm.ClassFile.FieldType.int)) ∈ gW := gW_mem 190 (by decide +kernel) rfl
theorem k_192 : (Jvm.Cond.methodLink "StackJudge$Program" (51 : Nat) ({ cls := "StackJudge$Program", name := "isWellFormed", desc := "(I)Z" } : Jvm.MethodName)) ∈ gW := gW_mem 192 (by decide +kernel) rfl
theorem k_193 : (Jvm.Cond.instanceMethod ({ cls := "StackJudge$Program", name := "isWellFormed", desc := "(I)Z" } : Jvm.MethodName)) ∈ gW := gW_mem 193 (by decide +kernel) rfl
theorem k_194 : (Jvm.Cond.selects "StackJudge$Program" ({ cls := "StackJudge$Program", name := "isWellFormed", desc := "(I)Z" } : Jvm.MethodName) ({ cls := "StackJudge$Program", name := "isWellFormed", desc := "(I)Z" } : Jvm.MethodName)) ∈ gW := gW_mem 194 (by decide +kernel) rfl
theorem k_195 : (Jvm.Cond.code ({ cls := "StackJudge$Program", name := "isWellFormed", desc := "(I)Z" } : Jvm.MethodName) prog_5_method_7_code (5 : Nat) (Option.some Jvm.ClassFile.FieldType.boolean)) ∈ gW := gW_mem 195 (by decide +kernel) rfl
theorem k_196 : (Jvm.Cond.methodLink "StackJudge$Program" (38 : Nat) ({ cls := "StackJudge$Program", name := "limitOfN", desc := "(I)I" } : Jvm.MethodName)) ∈ gW := gW_mem 196 (by decide +kernel) rfl
theorem k_198 : (Jvm.Cond.instanceMethod ({ cls := "StackJudge$Program", name := "limitOfN", desc := "(I)I" } : Jvm.MethodName)) ∈ gW := gW_mem 198 (by decide +kernel) rfl
theorem k_199 : (Jvm.Cond.code ({ cls := "StackJudge$Program", name := "limitOfN", desc := "(I)I" } : Jvm.MethodName) prog_5_method_8_code (2 : Nat) (Option.some Jvm.ClassFile.FieldType.int)) ∈ gW := gW_mem 199 (by decide +kernel) rfl
theorem k_200 : (Jvm.Cond.methodLink "StackJudge$Program" (42 : Nat) ({ cls := "StackJudge$Op", name := "isOf", desc := "(II)Z" } : Jvm.MethodName)) ∈ gW := gW_mem 200 (by decide +kernel) rfl
theorem k_201 : (Jvm.Cond.static ({ cls := "StackJudge$Op", name := "isOf", desc := "(II)Z" } : Jvm.MethodName)) ∈ gW := gW_mem 201 (by decide +kernel) rfl
theorem k_202 : (Jvm.Cond.code ({ cls := "StackJudge$Op", name := "isOf", desc := "(II)Z" } : Jvm.MethodName) prog_4_method_2_code (2 : Nat) (Option.some Jvm.ClassFile.FieldType.boolean)) ∈ gW := gW_mem 202 (by decide +kernel) rfl
theorem k_203 : (Jvm.Cond.methodLink "StackJudge$Program" (55 : Nat) ({ cls := "StackJudge$Op", name := "hasNext", desc := "(I)Z" } : Jvm.MethodName)) ∈ gW := gW_mem 203 (by decide +kernel) rfl
theorem k_204 : (Jvm.Cond.static ({ cls := "StackJudge$Op", name := "hasNext", desc := "(I)Z" } : Jvm.MethodName)) ∈ gW := gW_mem 204 (by decide +kernel) rfl
theorem k_205 : (Jvm.Cond.code ({ cls := "StackJudge$Op", name := "hasNext", desc := "(I)Z" } : Jvm.MethodName) prog_4_method_6_code (1 : Nat) (Option.some Jvm.ClassFile.FieldType.boolean)) ∈ gW := gW_mem 205 (by decide +kernel) rfl
theorem k_206 : (Jvm.Cond.methodLink "StackJudge$Program" (58 : Nat) ({ cls := "StackJudge$Program", name := "has", desc := "(I)Z" } : Jvm.MethodName)) ∈ gW := gW_mem 206 (by decide +kernel) rfl
theorem k_207 : (Jvm.Cond.methodLink "StackJudge$Program" (61 : Nat) ({ cls := "StackJudge$Op", name := "needs", desc := "(II)I" } : Jvm.MethodName)) ∈ gW := gW_mem 207 (by decide +kernel) rfl
theorem k_208 : (Jvm.Cond.static ({ cls := "StackJudge$Op", name := "needs", desc := "(II)I" } : Jvm.MethodName)) ∈ gW := gW_mem 208 (by decide +kernel) rfl
theorem k_209 : (Jvm.Cond.code ({ cls := "StackJudge$Op", name := "needs", desc := "(II)I" } : Jvm.MethodName) prog_4_method_3_code (2 : Nat) (Option.some Jvm.ClassFile.FieldType.int)) ∈ gW := gW_mem 209 (by decide +kernel) rfl
theorem k_210 : (Jvm.Cond.fieldLink "StackJudge$Op" (11 : Nat) "StackJudge$Op" "NEEDS" "[I") ∈ gW := gW_mem 210 (by decide +kernel) rfl
theorem k_213 : (Jvm.Cond.methodLink "StackJudge$Program" (65 : Nat) ({ cls := "StackJudge$Op", name := "growth", desc := "(I)I" } : Jvm.MethodName)) ∈ gW := gW_mem 213 (by decide +kernel) rfl
theorem k_214 : (Jvm.Cond.static ({ cls := "StackJudge$Op", name := "growth", desc := "(I)I" } : Jvm.MethodName)) ∈ gW := gW_mem 214 (by decide +kernel) rfl
theorem k_215 : (Jvm.Cond.code ({ cls := "StackJudge$Op", name := "growth", desc := "(I)I" } : Jvm.MethodName) prog_4_method_4_code (1 : Nat) (Option.some Jvm.ClassFile.FieldType.int)) ∈ gW := gW_mem 215 (by decide +kernel) rfl
theorem k_216 : (Jvm.Cond.fieldLink "StackJudge$Op" (21 : Nat) "StackJudge$Op" "GROWTH" "[I") ∈ gW := gW_mem 216 (by decide +kernel) rfl
theorem k_218 : (Jvm.Cond.methodLink "StackJudge$Ways" (45 : Nat) ({ cls := "StackJudge$Program", name := "opAt", desc := "(I)I" } : Jvm.MethodName)) ∈ gW := gW_mem 218 (by decide +kernel) rfl
theorem k_219 : (Jvm.Cond.methodLink "StackJudge$Ways" (49 : Nat) ({ cls := "StackJudge$Op", name := "growth", desc := "(I)I" } : Jvm.MethodName)) ∈ gW := gW_mem 219 (by decide +kernel) rfl
theorem k_220 : (Jvm.Cond.methodLink "StackJudge$Ways" (54 : Nat) ({ cls := "StackJudge$Op", name := "hasNext", desc := "(I)Z" } : Jvm.MethodName)) ∈ gW := gW_mem 220 (by decide +kernel) rfl
theorem k_221 : (Jvm.Cond.methodLink "StackJudge$Ways" (58 : Nat) ({ cls := "StackJudge$Op", name := "jumps", desc := "(I)Z" } : Jvm.MethodName)) ∈ gW := gW_mem 221 (by decide +kernel) rfl
theorem k_222 : (Jvm.Cond.static ({ cls := "StackJudge$Op", name := "jumps", desc := "(I)Z" } : Jvm.MethodName)) ∈ gW := gW_mem 222 (by decide +kernel) rfl
theorem k_223 : (Jvm.Cond.code ({ cls := "StackJudge$Op", name := "jumps", desc := "(I)Z" } : Jvm.MethodName) prog_4_method_5_code (1 : Nat) (Option.some Jvm.ClassFile.FieldType.boolean)) ∈ gW := gW_mem 223 (by decide +kernel) rfl
theorem k_224 : (Jvm.Cond.methodLink "StackJudge$Ways" (61 : Nat) ({ cls := "StackJudge$Program", name := "nAt", desc := "(I)I" } : Jvm.MethodName)) ∈ gW := gW_mem 224 (by decide +kernel) rfl
theorem k_225 : (Jvm.Cond.instanceMethod ({ cls := "StackJudge$Program", name := "nAt", desc := "(I)I" } : Jvm.MethodName)) ∈ gW := gW_mem 225 (by decide +kernel) rfl
theorem k_226 : (Jvm.Cond.selects "StackJudge$Program" ({ cls := "StackJudge$Program", name := "nAt", desc := "(I)I" } : Jvm.MethodName) ({ cls := "StackJudge$Program", name := "nAt", desc := "(I)I" } : Jvm.MethodName)) ∈ gW := gW_mem 226 (by decide +kernel) rfl
theorem k_227 : (Jvm.Cond.code ({ cls := "StackJudge$Program", name := "nAt", desc := "(I)I" } : Jvm.MethodName) prog_5_method_6_code (2 : Nat) (Option.some Jvm.ClassFile.FieldType.int)) ∈ gW := gW_mem 227 (by decide +kernel) rfl
theorem k_228 : (Jvm.Cond.methodLink "StackJudge" (47 : Nat) ({ cls := "StackJudge$Ways", name := "firstWrong", desc := "(LStackJudge$Program;)I" } : Jvm.MethodName)) ∈ gW := gW_mem 228 (by decide +kernel) rfl
theorem k_229 : (Jvm.Cond.instanceMethod ({ cls := "StackJudge$Ways", name := "firstWrong", desc := "(LStackJudge$Program;)I" } : Jvm.MethodName)) ∈ gW := gW_mem 229 (by decide +kernel) rfl
theorem k_230 : (Jvm.Cond.selects "StackJudge$Ways" ({ cls := "StackJudge$Ways", name := "firstWrong", desc := "(LStackJudge$Program;)I" } : Jvm.MethodName) ({ cls := "StackJudge$Ways", name := "firstWrong", desc := "(LStackJudge$Program;)I" } : Jvm.MethodName)) ∈ gW := gW_mem 230 (by decide +kernel) rfl
theorem k_231 : (Jvm.Cond.code ({ cls := "StackJudge$Ways", name := "firstWrong", desc := "(LStackJudge$Program;)I" } : Jvm.MethodName) prog_6_method_6_code (3 : Nat) (Option.some Jvm.ClassFile.FieldType.int)) ∈ gW := gW_mem 231 (by decide +kernel) rfl
theorem k_232 : (Jvm.Cond.methodLink "StackJudge$Ways" (77 : Nat) ({ cls := "StackJudge$Ways", name := "isWrong", desc := "(LStackJudge$Program;I)Z" } : Jvm.MethodName)) ∈ gW := gW_mem 232 (by decide +kernel) rfl
theorem k_234 : (Jvm.Cond.instanceMethod ({ cls := "StackJudge$Ways", name := "isWrong", desc := "(LStackJudge$Program;I)Z" } : Jvm.MethodName)) ∈ gW := gW_mem 234 (by decide +kernel) rfl
theorem k_235 : (Jvm.Cond.code ({ cls := "StackJudge$Ways", name := "isWrong", desc := "(LStackJudge$Program;I)Z" } : Jvm.MethodName) prog_6_method_7_code (4 : Nat) (Option.some Jvm.ClassFile.FieldType.boolean)) ∈ gW := gW_mem 235 (by decide +kernel) rfl
theorem k_236 : (Jvm.Cond.methodLink "StackJudge$Ways" (81 : Nat) ({ cls := "StackJudge$Program", name := "isWellFormed", desc := "(I)Z" } : Jvm.MethodName)) ∈ gW := gW_mem 236 (by decide +kernel) rfl
theorem k_237 : (Jvm.Cond.methodLink "StackJudge$Ways" (84 : Nat) ({ cls := "java/lang/Integer", name := "bitCount", desc := "(I)I" } : Jvm.MethodName)) ∈ gW := gW_mem 237 (by decide +kernel) rfl
theorem k_238 : (Jvm.Cond.static ({ cls := "java/lang/Integer", name := "bitCount", desc := "(I)I" } : Jvm.MethodName)) ∈ gW := gW_mem 238 (by decide +kernel) rfl
theorem k_239 : (Jvm.Cond.code ({ cls := "java/lang/Integer", name := "bitCount", desc := "(I)I" } : Jvm.MethodName) prog_9_method_49_code (1 : Nat) (Option.some Jvm.ClassFile.FieldType.int)) ∈ gW := gW_mem 239 (by decide +kernel) rfl
theorem k_240 : (Jvm.Cond.constant "java/lang/Integer" (265 : Nat) (1431655765 : Int32)) ∈ gW := gW_mem 240 (by decide +kernel) rfl
theorem k_241 : (Jvm.Cond.constant "java/lang/Integer" (266 : Nat) (858993459 : Int32)) ∈ gW := gW_mem 241 (by decide +kernel) rfl
theorem k_242 : (Jvm.Cond.constant "java/lang/Integer" (267 : Nat) (252645135 : Int32)) ∈ gW := gW_mem 242 (by decide +kernel) rfl
theorem k_243 : (Jvm.Cond.methodLink "StackJudgeLaw" (39 : Nat) ({ cls := "StackJudge", name := "heights", desc := "(I)I" } : Jvm.MethodName)) ∈ gW := gW_mem 243 (by decide +kernel) rfl
theorem k_244 : (Jvm.Cond.instanceMethod ({ cls := "StackJudge", name := "heights", desc := "(I)I" } : Jvm.MethodName)) ∈ gW := gW_mem 244 (by decide +kernel) rfl
theorem k_245 : (Jvm.Cond.selects "StackJudge" ({ cls := "StackJudge", name := "heights", desc := "(I)I" } : Jvm.MethodName) ({ cls := "StackJudge", name := "heights", desc := "(I)I" } : Jvm.MethodName)) ∈ gW := gW_mem 245 (by decide +kernel) rfl
theorem k_246 : (Jvm.Cond.code ({ cls := "StackJudge", name := "heights", desc := "(I)I" } : Jvm.MethodName) prog_1_method_6_code (2 : Nat) (Option.some Jvm.ClassFile.FieldType.int)) ∈ gW := gW_mem 246 (by decide +kernel) rfl
theorem k_247 : (Jvm.Cond.methodLink "StackJudge" (51 : Nat) ({ cls := "StackJudge$Program", name := "has", desc := "(I)Z" } : Jvm.MethodName)) ∈ gW := gW_mem 247 (by decide +kernel) rfl
theorem k_248 : (Jvm.Cond.methodLink "StackJudge" (59 : Nat) ({ cls := "StackJudge", name := "read", desc := "([II)I" } : Jvm.MethodName)) ∈ gW := gW_mem 248 (by decide +kernel) rfl
theorem k_249 : (Jvm.Cond.methodLink "StackJudgeLaw" (44 : Nat) ({ cls := "StackJudge", name := "call", desc := "(III)I" } : Jvm.MethodName)) ∈ gW := gW_mem 249 (by decide +kernel) rfl
theorem k_250 : (Jvm.Cond.instanceMethod ({ cls := "StackJudge", name := "call", desc := "(III)I" } : Jvm.MethodName)) ∈ gW := gW_mem 250 (by decide +kernel) rfl
theorem k_251 : (Jvm.Cond.selects "StackJudge" ({ cls := "StackJudge", name := "call", desc := "(III)I" } : Jvm.MethodName) ({ cls := "StackJudge", name := "call", desc := "(III)I" } : Jvm.MethodName)) ∈ gW := gW_mem 251 (by decide +kernel) rfl
theorem k_252 : (Jvm.Cond.code ({ cls := "StackJudge", name := "call", desc := "(III)I" } : Jvm.MethodName) prog_1_method_7_code (4 : Nat) (Option.some Jvm.ClassFile.FieldType.int)) ∈ gW := gW_mem 252 (by decide +kernel) rfl
theorem k_253 : (Jvm.Cond.methodLink "StackJudge" (63 : Nat) ({ cls := "StackJudge", name := "check", desc := "()I" } : Jvm.MethodName)) ∈ gW := gW_mem 253 (by decide +kernel) rfl
theorem k_254 : (Jvm.Cond.methodLink "StackJudge" (67 : Nat) ({ cls := "StackJudge$Machine", name := "run", desc := "(LStackJudge$Program;III)I" } : Jvm.MethodName)) ∈ gW := gW_mem 254 (by decide +kernel) rfl
theorem k_255 : (Jvm.Cond.instanceMethod ({ cls := "StackJudge$Machine", name := "run", desc := "(LStackJudge$Program;III)I" } : Jvm.MethodName)) ∈ gW := gW_mem 255 (by decide +kernel) rfl
theorem k_256 : (Jvm.Cond.selects "StackJudge$Machine" ({ cls := "StackJudge$Machine", name := "run", desc := "(LStackJudge$Program;III)I" } : Jvm.MethodName) ({ cls := "StackJudge$Machine", name := "run", desc := "(LStackJudge$Program;III)I" } : Jvm.MethodName)) ∈ gW := gW_mem 256 (by decide +kernel) rfl
theorem k_257 : (Jvm.Cond.code ({ cls := "StackJudge$Machine", name := "run", desc := "(LStackJudge$Program;III)I" } : Jvm.MethodName) prog_3_method_2_code (7 : Nat) (Option.some Jvm.ClassFile.FieldType.int)) ∈ gW := gW_mem 257 (by decide +kernel) rfl
theorem k_258 : (Jvm.Cond.methodLink "StackJudge$Machine" (27 : Nat) ({ cls := "StackJudge$Machine", name := "begin", desc := "(III)V" } : Jvm.MethodName)) ∈ gW := gW_mem 258 (by decide +kernel) rfl
theorem k_260 : (Jvm.Cond.instanceMethod ({ cls := "StackJudge$Machine", name := "begin", desc := "(III)V" } : Jvm.MethodName)) ∈ gW := gW_mem 260 (by decide +kernel) rfl
theorem k_261 : (Jvm.Cond.code ({ cls := "StackJudge$Machine", name := "begin", desc := "(III)V" } : Jvm.MethodName) prog_3_method_3_code (4 : Nat) (Option.none : Option Jvm.ClassFile.FieldType)) ∈ gW := gW_mem 261 (by decide +kernel) rfl
theorem k_263 : (Jvm.Cond.methodLink "StackJudge$Machine" (61 : Nat) ({ cls := "java/util/Arrays", name := "fill", desc := "([II)V" } : Jvm.MethodName)) ∈ gW := gW_mem 263 (by decide +kernel) rfl
theorem k_264 : (Jvm.Cond.methodLink "StackJudge$Machine" (38 : Nat) ({ cls := "StackJudge$Program", name := "opAt", desc := "(I)I" } : Jvm.MethodName)) ∈ gW := gW_mem 264 (by decide +kernel) rfl
theorem k_265 : (Jvm.Cond.methodLink "StackJudge$Machine" (44 : Nat) ({ cls := "StackJudge$Program", name := "nAt", desc := "(I)I" } : Jvm.MethodName)) ∈ gW := gW_mem 265 (by decide +kernel) rfl
theorem k_266 : (Jvm.Cond.methodLink "StackJudge$Machine" (50 : Nat) ({ cls := "StackJudge$Machine", name := "doOne", desc := "(III)I" } : Jvm.MethodName)) ∈ gW := gW_mem 266 (by decide +kernel) rfl
theorem k_268 : (Jvm.Cond.instanceMethod ({ cls := "StackJudge$Machine", name := "doOne", desc := "(III)I" } : Jvm.MethodName)) ∈ gW := gW_mem 268 (by decide +kernel) rfl
theorem k_269 : (Jvm.Cond.code ({ cls := "StackJudge$Machine", name := "doOne", desc := "(III)I" } : Jvm.MethodName) prog_3_method_4_code (4 : Nat) (Option.some Jvm.ClassFile.FieldType.int)) ∈ gW := gW_mem 269 (by decide +kernel) rfl
theorem k_270 : (Jvm.Cond.methodLink "StackJudge$Machine" (73 : Nat) ({ cls := "StackJudge$Machine", name := "pop", desc := "()I" } : Jvm.MethodName)) ∈ gW := gW_mem 270 (by decide +kernel) rfl
theorem k_272 : (Jvm.Cond.instanceMethod ({ cls := "StackJudge$Machine", name := "pop", desc := "()I" } : Jvm.MethodName)) ∈ gW := gW_mem 272 (by decide +kernel) rfl
theorem k_273 : (Jvm.Cond.code ({ cls := "StackJudge$Machine", name := "pop", desc := "()I" } : Jvm.MethodName) prog_3_method_9_code (1 : Nat) (Option.some Jvm.ClassFile.FieldType.int)) ∈ gW := gW_mem 273 (by decide +kernel) rfl
theorem k_275 : (Jvm.Cond.methodLink "StackJudge$Machine" (77 : Nat) ({ cls := "StackJudge$Machine", name := "emit", desc := "()I" } : Jvm.MethodName)) ∈ gW := gW_mem 275 (by decide +kernel) rfl
theorem k_277 : (Jvm.Cond.instanceMethod ({ cls := "StackJudge$Machine", name := "emit", desc := "()I" } : Jvm.MethodName)) ∈ gW := gW_mem 277 (by decide +kernel) rfl
theorem k_278 : (Jvm.Cond.code ({ cls := "StackJudge$Machine", name := "emit", desc := "()I" } : Jvm.MethodName) prog_3_method_7_code (1 : Nat) (Option.some Jvm.ClassFile.FieldType.int)) ∈ gW := gW_mem 278 (by decide +kernel) rfl
theorem k_279 : (Jvm.Cond.methodLink "StackJudge$Machine" (80 : Nat) ({ cls := "StackJudge$Machine", name := "move", desc := "(II)V" } : Jvm.MethodName)) ∈ gW := gW_mem 279 (by decide +kernel) rfl
theorem k_281 : (Jvm.Cond.instanceMethod ({ cls := "StackJudge$Machine", name := "move", desc := "(II)V" } : Jvm.MethodName)) ∈ gW := gW_mem 281 (by decide +kernel) rfl
theorem k_282 : (Jvm.Cond.code ({ cls := "StackJudge$Machine", name := "move", desc := "(II)V" } : Jvm.MethodName) prog_3_method_5_code (8 : Nat) (Option.none : Option Jvm.ClassFile.FieldType)) ∈ gW := gW_mem 282 (by decide +kernel) rfl
theorem k_283 : (Jvm.Cond.methodLink "StackJudge$Machine" (84 : Nat) ({ cls := "StackJudge$Machine", name := "push", desc := "(I)V" } : Jvm.MethodName)) ∈ gW := gW_mem 283 (by decide +kernel) rfl
theorem k_285 : (Jvm.Cond.instanceMethod ({ cls := "StackJudge$Machine", name := "push", desc := "(I)V" } : Jvm.MethodName)) ∈ gW := gW_mem 285 (by decide +kernel) rfl
theorem k_286 : (Jvm.Cond.code ({ cls := "StackJudge$Machine", name := "push", desc := "(I)V" } : Jvm.MethodName) prog_3_method_8_code (2 : Nat) (Option.none : Option Jvm.ClassFile.FieldType)) ∈ gW := gW_mem 286 (by decide +kernel) rfl
theorem k_287 : (Jvm.Cond.methodLink "StackJudge$Machine" (92 : Nat) ({ cls := "StackJudge$Machine", name := "combine", desc := "(III)I" } : Jvm.MethodName)) ∈ gW := gW_mem 287 (by decide +kernel) rfl
theorem k_288 : (Jvm.Cond.static ({ cls := "StackJudge$Machine", name := "combine", desc := "(III)I" } : Jvm.MethodName)) ∈ gW := gW_mem 288 (by decide +kernel) rfl
theorem k_289 : (Jvm.Cond.code ({ cls := "StackJudge$Machine", name := "combine", desc := "(III)I" } : Jvm.MethodName) prog_3_method_6_code (3 : Nat) (Option.some Jvm.ClassFile.FieldType.int)) ∈ gW := gW_mem 289 (by decide +kernel) rfl
theorem k_290 : (Jvm.Cond.methodLink "StackJudgeLaw" (49 : Nat) ({ cls := "StackJudge", name := "result", desc := "()I" } : Jvm.MethodName)) ∈ gW := gW_mem 290 (by decide +kernel) rfl
theorem k_291 : (Jvm.Cond.instanceMethod ({ cls := "StackJudge", name := "result", desc := "()I" } : Jvm.MethodName)) ∈ gW := gW_mem 291 (by decide +kernel) rfl
theorem k_292 : (Jvm.Cond.selects "StackJudge" ({ cls := "StackJudge", name := "result", desc := "()I" } : Jvm.MethodName) ({ cls := "StackJudge", name := "result", desc := "()I" } : Jvm.MethodName)) ∈ gW := gW_mem 292 (by decide +kernel) rfl
theorem k_293 : (Jvm.Cond.code ({ cls := "StackJudge", name := "result", desc := "()I" } : Jvm.MethodName) prog_1_method_8_code (1 : Nat) (Option.some Jvm.ClassFile.FieldType.int)) ∈ gW := gW_mem 293 (by decide +kernel) rfl
theorem k_294 : (Jvm.Cond.methodLink "StackJudgeLaw" (53 : Nat) ({ cls := "StackJudge", name := "steps", desc := "()I" } : Jvm.MethodName)) ∈ gW := gW_mem 294 (by decide +kernel) rfl
theorem k_295 : (Jvm.Cond.instanceMethod ({ cls := "StackJudge", name := "steps", desc := "()I" } : Jvm.MethodName)) ∈ gW := gW_mem 295 (by decide +kernel) rfl
theorem k_296 : (Jvm.Cond.selects "StackJudge" ({ cls := "StackJudge", name := "steps", desc := "()I" } : Jvm.MethodName) ({ cls := "StackJudge", name := "steps", desc := "()I" } : Jvm.MethodName)) ∈ gW := gW_mem 296 (by decide +kernel) rfl
theorem k_297 : (Jvm.Cond.code ({ cls := "StackJudge", name := "steps", desc := "()I" } : Jvm.MethodName) prog_1_method_9_code (1 : Nat) (Option.some Jvm.ClassFile.FieldType.int)) ∈ gW := gW_mem 297 (by decide +kernel) rfl
theorem k_298 : (Jvm.Cond.methodLink "StackJudgeLaw" (57 : Nat) ({ cls := "StackJudge", name := "pairs", desc := "()I" } : Jvm.MethodName)) ∈ gW := gW_mem 298 (by decide +kernel) rfl
theorem k_299 : (Jvm.Cond.instanceMethod ({ cls := "StackJudge", name := "pairs", desc := "()I" } : Jvm.MethodName)) ∈ gW := gW_mem 299 (by decide +kernel) rfl
theorem k_300 : (Jvm.Cond.selects "StackJudge" ({ cls := "StackJudge", name := "pairs", desc := "()I" } : Jvm.MethodName) ({ cls := "StackJudge", name := "pairs", desc := "()I" } : Jvm.MethodName)) ∈ gW := gW_mem 300 (by decide +kernel) rfl
theorem k_301 : (Jvm.Cond.code ({ cls := "StackJudge", name := "pairs", desc := "()I" } : Jvm.MethodName) prog_1_method_10_code (1 : Nat) (Option.some Jvm.ClassFile.FieldType.int)) ∈ gW := gW_mem 301 (by decide +kernel) rfl
theorem k_302 : (Jvm.Cond.methodLink "StackJudgeLaw" (61 : Nat) ({ cls := "StackJudge", name := "pair", desc := "(II)J" } : Jvm.MethodName)) ∈ gW := gW_mem 302 (by decide +kernel) rfl
theorem k_303 : (Jvm.Cond.instanceMethod ({ cls := "StackJudge", name := "pair", desc := "(II)J" } : Jvm.MethodName)) ∈ gW := gW_mem 303 (by decide +kernel) rfl
theorem k_304 : (Jvm.Cond.selects "StackJudge" ({ cls := "StackJudge", name := "pair", desc := "(II)J" } : Jvm.MethodName) ({ cls := "StackJudge", name := "pair", desc := "(II)J" } : Jvm.MethodName)) ∈ gW := gW_mem 304 (by decide +kernel) rfl
theorem k_305 : (Jvm.Cond.code ({ cls := "StackJudge", name := "pair", desc := "(II)J" } : Jvm.MethodName) prog_1_method_11_code (3 : Nat) (Option.some Jvm.ClassFile.FieldType.long)) ∈ gW := gW_mem 305 (by decide +kernel) rfl
theorem k_306 : (Jvm.Cond.constantLong "StackJudge" (80 : Nat) (1099511627776 : Int64)) ∈ gW := gW_mem 306 (by decide +kernel) rfl
theorem k_307 : (Jvm.Cond.methodLink "StackJudgeLaw" (9 : Nat) ({ cls := "StackJudgeLaw", name := "cell", desc := "([II)I" } : Jvm.MethodName)) ∈ gW := gW_mem 307 (by decide +kernel) rfl
theorem k_308 : (Jvm.Cond.static ({ cls := "StackJudgeLaw", name := "cell", desc := "([II)I" } : Jvm.MethodName)) ∈ gW := gW_mem 308 (by decide +kernel) rfl
theorem k_309 : (Jvm.Cond.code ({ cls := "StackJudgeLaw", name := "cell", desc := "([II)I" } : Jvm.MethodName) method_2_code (2 : Nat) (Option.some Jvm.ClassFile.FieldType.int)) ∈ gW := gW_mem 309 (by decide +kernel) rfl
theorem k_310 : (Jvm.Cond.classLink "StackJudgeLaw" (18 : Nat) "StackJudgeModel") ∈ gW := gW_mem 310 (by decide +kernel) rfl
theorem k_311 : (Jvm.Cond.instantiable "StackJudgeModel" (13 : Nat)) ∈ gW := gW_mem 311 (by decide +kernel) rfl
theorem k_312 : (Jvm.Cond.methodLink "StackJudgeLaw" (20 : Nat) ({ cls := "StackJudgeModel", name := "<init>", desc := "(I)V" } : Jvm.MethodName)) ∈ gW := gW_mem 312 (by decide +kernel) rfl
theorem k_313 : (Jvm.Cond.instanceMethod ({ cls := "StackJudgeModel", name := "<init>", desc := "(I)V" } : Jvm.MethodName)) ∈ gW := gW_mem 313 (by decide +kernel) rfl
theorem k_314 : (Jvm.Cond.code ({ cls := "StackJudgeModel", name := "<init>", desc := "(I)V" } : Jvm.MethodName) prog_8_method_1_code (2 : Nat) (Option.none : Option Jvm.ClassFile.FieldType)) ∈ gW := gW_mem 314 (by decide +kernel) rfl
theorem k_315 : (Jvm.Cond.methodLink "StackJudgeModel" (1 : Nat) ({ cls := "java/lang/Object", name := "<init>", desc := "()V" } : Jvm.MethodName)) ∈ gW := gW_mem 315 (by decide +kernel) rfl
theorem k_316 : (Jvm.Cond.fieldLink "StackJudgeModel" (35 : Nat) "StackJudgeModel" "kind" "I") ∈ gW := gW_mem 316 (by decide +kernel) rfl
theorem k_317 : (Jvm.Cond.fieldLink "StackJudgeModel" (9 : Nat) "StackJudgeModel" "op" "[I") ∈ gW := gW_mem 317 (by decide +kernel) rfl
theorem k_318 : (Jvm.Cond.fieldLink "StackJudgeModel" (13 : Nat) "StackJudgeModel" "number" "[I") ∈ gW := gW_mem 318 (by decide +kernel) rfl
theorem k_319 : (Jvm.Cond.fieldLink "StackJudgeModel" (39 : Nat) "StackJudgeModel" "length" "I") ∈ gW := gW_mem 319 (by decide +kernel) rfl
theorem k_320 : (Jvm.Cond.fieldLink "StackJudgeModel" (16 : Nat) "StackJudgeModel" "reached" "[I") ∈ gW := gW_mem 320 (by decide +kernel) rfl
theorem k_321 : (Jvm.Cond.fieldLink "StackJudgeModel" (19 : Nat) "StackJudgeModel" "wrong" "[Z") ∈ gW := gW_mem 321 (by decide +kernel) rfl
theorem k_322 : (Jvm.Cond.fieldLink "StackJudgeModel" (23 : Nat) "StackJudgeModel" "stack" "[I") ∈ gW := gW_mem 322 (by decide +kernel) rfl
theorem k_323 : (Jvm.Cond.fieldLink "StackJudgeModel" (26 : Nat) "StackJudgeModel" "local" "[I") ∈ gW := gW_mem 323 (by decide +kernel) rfl
theorem k_324 : (Jvm.Cond.fieldLink "StackJudgeModel" (29 : Nat) "StackJudgeModel" "key" "[I") ∈ gW := gW_mem 324 (by decide +kernel) rfl
theorem k_325 : (Jvm.Cond.fieldLink "StackJudgeModel" (32 : Nat) "StackJudgeModel" "value" "[I") ∈ gW := gW_mem 325 (by decide +kernel) rfl
theorem k_326 : (Jvm.Cond.fieldLink "StackJudgeModel" (66 : Nat) "StackJudgeModel" "emitted" "I") ∈ gW := gW_mem 326 (by decide +kernel) rfl
theorem k_327 : (Jvm.Cond.fieldLink "StackJudgeModel" (63 : Nat) "StackJudgeModel" "steps" "I") ∈ gW := gW_mem 327 (by decide +kernel) rfl
theorem k_328 : (Jvm.Cond.fieldLink "StackJudgeModel" (69 : Nat) "StackJudgeModel" "result" "I") ∈ gW := gW_mem 328 (by decide +kernel) rfl
theorem k_329 : (Jvm.Cond.laysFinal "StackJudgeModel" "StackJudgeModel" "kind" "I") ∈ gW := gW_mem 329 (by decide +kernel) rfl
theorem k_331 : (Jvm.Cond.laysFinal "StackJudgeModel" "StackJudgeModel" "op" "[I") ∈ gW := gW_mem 331 (by decide +kernel) rfl
theorem k_333 : (Jvm.Cond.laysFinal "StackJudgeModel" "StackJudgeModel" "number" "[I") ∈ gW := gW_mem 333 (by decide +kernel) rfl
theorem k_335 : (Jvm.Cond.lays "StackJudgeModel" "StackJudgeModel" "length" "I") ∈ gW := gW_mem 335 (by decide +kernel) rfl
theorem k_337 : (Jvm.Cond.laysFinal "StackJudgeModel" "StackJudgeModel" "reached" "[I") ∈ gW := gW_mem 337 (by decide +kernel) rfl
theorem k_339 : (Jvm.Cond.laysFinal "StackJudgeModel" "StackJudgeModel" "wrong" "[Z") ∈ gW := gW_mem 339 (by decide +kernel) rfl
theorem k_341 : (Jvm.Cond.laysFinal "StackJudgeModel" "StackJudgeModel" "stack" "[I") ∈ gW := gW_mem 341 (by decide +kernel) rfl
theorem k_343 : (Jvm.Cond.laysFinal "StackJudgeModel" "StackJudgeModel" "local" "[I") ∈ gW := gW_mem 343 (by decide +kernel) rfl
theorem k_345 : (Jvm.Cond.laysFinal "StackJudgeModel" "StackJudgeModel" "key" "[I") ∈ gW := gW_mem 345 (by decide +kernel) rfl
theorem k_347 : (Jvm.Cond.laysFinal "StackJudgeModel" "StackJudgeModel" "value" "[I") ∈ gW := gW_mem 347 (by decide +kernel) rfl
theorem k_349 : (Jvm.Cond.lays "StackJudgeModel" "StackJudgeModel" "emitted" "I") ∈ gW := gW_mem 349 (by decide +kernel) rfl
theorem k_351 : (Jvm.Cond.lays "StackJudgeModel" "StackJudgeModel" "steps" "I") ∈ gW := gW_mem 351 (by decide +kernel) rfl
theorem k_353 : (Jvm.Cond.lays "StackJudgeModel" "StackJudgeModel" "result" "I") ∈ gW := gW_mem 353 (by decide +kernel) rfl
theorem k_356 : (Jvm.Cond.arrayClass Jvm.ClassFile.FieldType.boolean) ∈ gW := gW_mem 356 (by decide +kernel) rfl
theorem k_357 : (Jvm.Cond.methodLink "StackJudgeLaw" (25 : Nat) ({ cls := "StackJudgeModel", name := "code", desc := "(II)I" } : Jvm.MethodName)) ∈ gW := gW_mem 357 (by decide +kernel) rfl
theorem k_358 : (Jvm.Cond.instanceMethod ({ cls := "StackJudgeModel", name := "code", desc := "(II)I" } : Jvm.MethodName)) ∈ gW := gW_mem 358 (by decide +kernel) rfl
theorem k_359 : (Jvm.Cond.selects "StackJudgeModel" ({ cls := "StackJudgeModel", name := "code", desc := "(II)I" } : Jvm.MethodName) ({ cls := "StackJudgeModel", name := "code", desc := "(II)I" } : Jvm.MethodName)) ∈ gW := gW_mem 359 (by decide +kernel) rfl
theorem k_360 : (Jvm.Cond.code ({ cls := "StackJudgeModel", name := "code", desc := "(II)I" } : Jvm.MethodName) prog_8_method_2_code (3 : Nat) (Option.some Jvm.ClassFile.FieldType.int)) ∈ gW := gW_mem 360 (by decide +kernel) rfl
theorem k_361 : (Jvm.Cond.methodLink "StackJudgeLaw" (30 : Nat) ({ cls := "StackJudgeModel", name := "clear", desc := "()I" } : Jvm.MethodName)) ∈ gW := gW_mem 361 (by decide +kernel) rfl
theorem k_362 : (Jvm.Cond.instanceMethod ({ cls := "StackJudgeModel", name := "clear", desc := "()I" } : Jvm.MethodName)) ∈ gW := gW_mem 362 (by decide +kernel) rfl
theorem k_363 : (Jvm.Cond.selects "StackJudgeModel" ({ cls := "StackJudgeModel", name := "clear", desc := "()I" } : Jvm.MethodName) ({ cls := "StackJudgeModel", name := "clear", desc := "()I" } : Jvm.MethodName)) ∈ gW := gW_mem 363 (by decide +kernel) rfl
theorem k_364 : (Jvm.Cond.code ({ cls := "StackJudgeModel", name := "clear", desc := "()I" } : Jvm.MethodName) prog_8_method_3_code (2 : Nat) (Option.some Jvm.ClassFile.FieldType.int)) ∈ gW := gW_mem 364 (by decide +kernel) rfl
theorem k_365 : (Jvm.Cond.methodLink "StackJudgeLaw" (34 : Nat) ({ cls := "StackJudgeModel", name := "drop", desc := "()I" } : Jvm.MethodName)) ∈ gW := gW_mem 365 (by decide +kernel) rfl
theorem k_366 : (Jvm.Cond.instanceMethod ({ cls := "StackJudgeModel", name := "drop", desc := "()I" } : Jvm.MethodName)) ∈ gW := gW_mem 366 (by decide +kernel) rfl
theorem k_367 : (Jvm.Cond.selects "StackJudgeModel" ({ cls := "StackJudgeModel", name := "drop", desc := "()I" } : Jvm.MethodName) ({ cls := "StackJudgeModel", name := "drop", desc := "()I" } : Jvm.MethodName)) ∈ gW := gW_mem 367 (by decide +kernel) rfl
theorem k_368 : (Jvm.Cond.code ({ cls := "StackJudgeModel", name := "drop", desc := "()I" } : Jvm.MethodName) prog_8_method_4_code (1 : Nat) (Option.some Jvm.ClassFile.FieldType.int)) ∈ gW := gW_mem 368 (by decide +kernel) rfl
theorem k_369 : (Jvm.Cond.methodLink "StackJudgeLaw" (43 : Nat) ({ cls := "StackJudgeModel", name := "heights", desc := "(I)I" } : Jvm.MethodName)) ∈ gW := gW_mem 369 (by decide +kernel) rfl
theorem k_370 : (Jvm.Cond.instanceMethod ({ cls := "StackJudgeModel", name := "heights", desc := "(I)I" } : Jvm.MethodName)) ∈ gW := gW_mem 370 (by decide +kernel) rfl
theorem k_371 : (Jvm.Cond.selects "StackJudgeModel" ({ cls := "StackJudgeModel", name := "heights", desc := "(I)I" } : Jvm.MethodName) ({ cls := "StackJudgeModel", name := "heights", desc := "(I)I" } : Jvm.MethodName)) ∈ gW := gW_mem 371 (by decide +kernel) rfl
theorem k_372 : (Jvm.Cond.code ({ cls := "StackJudgeModel", name := "heights", desc := "(I)I" } : Jvm.MethodName) prog_8_method_11_code (4 : Nat) (Option.some Jvm.ClassFile.FieldType.int)) ∈ gW := gW_mem 372 (by decide +kernel) rfl
theorem k_373 : (Jvm.Cond.methodLink "StackJudgeModel" (60 : Nat) ({ cls := "StackJudgeModel", name := "fill", desc := "()V" } : Jvm.MethodName)) ∈ gW := gW_mem 373 (by decide +kernel) rfl
theorem k_375 : (Jvm.Cond.instanceMethod ({ cls := "StackJudgeModel", name := "fill", desc := "()V" } : Jvm.MethodName)) ∈ gW := gW_mem 375 (by decide +kernel) rfl
theorem k_376 : (Jvm.Cond.code ({ cls := "StackJudgeModel", name := "fill", desc := "()V" } : Jvm.MethodName) prog_8_method_10_code (3 : Nat) (Option.none : Option Jvm.ClassFile.FieldType)) ∈ gW := gW_mem 376 (by decide +kernel) rfl
theorem k_377 : (Jvm.Cond.methodLink "StackJudgeModel" (42 : Nat) ({ cls := "StackJudgeModel", name := "isBad", desc := "(I)Z" } : Jvm.MethodName)) ∈ gW := gW_mem 377 (by decide +kernel) rfl
theorem k_379 : (Jvm.Cond.instanceMethod ({ cls := "StackJudgeModel", name := "isBad", desc := "(I)Z" } : Jvm.MethodName)) ∈ gW := gW_mem 379 (by decide +kernel) rfl
theorem k_380 : (Jvm.Cond.code ({ cls := "StackJudgeModel", name := "isBad", desc := "(I)Z" } : Jvm.MethodName) prog_8_method_5_code (4 : Nat) (Option.some Jvm.ClassFile.FieldType.boolean)) ∈ gW := gW_mem 380 (by decide +kernel) rfl
theorem k_381 : (Jvm.Cond.methodLink "StackJudgeModel" (57 : Nat) ({ cls := "StackJudgeModel", name := "goOn", desc := "(II)V" } : Jvm.MethodName)) ∈ gW := gW_mem 381 (by decide +kernel) rfl
theorem k_383 : (Jvm.Cond.instanceMethod ({ cls := "StackJudgeModel", name := "goOn", desc := "(II)V" } : Jvm.MethodName)) ∈ gW := gW_mem 383 (by decide +kernel) rfl
theorem k_384 : (Jvm.Cond.code ({ cls := "StackJudgeModel", name := "goOn", desc := "(II)V" } : Jvm.MethodName) prog_8_method_9_code (6 : Nat) (Option.none : Option Jvm.ClassFile.FieldType)) ∈ gW := gW_mem 384 (by decide +kernel) rfl
theorem k_385 : (Jvm.Cond.methodLink "StackJudgeModel" (46 : Nat) ({ cls := "StackJudgeModel", name := "grows", desc := "(I)I" } : Jvm.MethodName)) ∈ gW := gW_mem 385 (by decide +kernel) rfl
theorem k_386 : (Jvm.Cond.static ({ cls := "StackJudgeModel", name := "grows", desc := "(I)I" } : Jvm.MethodName)) ∈ gW := gW_mem 386 (by decide +kernel) rfl
theorem k_387 : (Jvm.Cond.code ({ cls := "StackJudgeModel", name := "grows", desc := "(I)I" } : Jvm.MethodName) prog_8_method_7_code (1 : Nat) (Option.some Jvm.ClassFile.FieldType.int)) ∈ gW := gW_mem 387 (by decide +kernel) rfl
theorem k_388 : (Jvm.Cond.methodLink "StackJudgeModel" (50 : Nat) ({ cls := "StackJudgeModel", name := "needs", desc := "(I)I" } : Jvm.MethodName)) ∈ gW := gW_mem 388 (by decide +kernel) rfl
theorem k_390 : (Jvm.Cond.instanceMethod ({ cls := "StackJudgeModel", name := "needs", desc := "(I)I" } : Jvm.MethodName)) ∈ gW := gW_mem 390 (by decide +kernel) rfl
theorem k_391 : (Jvm.Cond.code ({ cls := "StackJudgeModel", name := "needs", desc := "(I)I" } : Jvm.MethodName) prog_8_method_6_code (2 : Nat) (Option.some Jvm.ClassFile.FieldType.int)) ∈ gW := gW_mem 391 (by decide +kernel) rfl
theorem k_392 : (Jvm.Cond.methodLink "StackJudgeModel" (53 : Nat) ({ cls := "StackJudgeModel", name := "reach", desc := "(II)V" } : Jvm.MethodName)) ∈ gW := gW_mem 392 (by decide +kernel) rfl
theorem k_394 : (Jvm.Cond.instanceMethod ({ cls := "StackJudgeModel", name := "reach", desc := "(II)V" } : Jvm.MethodName)) ∈ gW := gW_mem 394 (by decide +kernel) rfl
theorem k_395 : (Jvm.Cond.code ({ cls := "StackJudgeModel", name := "reach", desc := "(II)V" } : Jvm.MethodName) prog_8_method_8_code (3 : Nat) (Option.none : Option Jvm.ClassFile.FieldType)) ∈ gW := gW_mem 395 (by decide +kernel) rfl
theorem k_396 : (Jvm.Cond.methodLink "StackJudgeLaw" (38 : Nat) ({ cls := "StackJudgeModel", name := "check", desc := "()I" } : Jvm.MethodName)) ∈ gW := gW_mem 396 (by decide +kernel) rfl
theorem k_397 : (Jvm.Cond.instanceMethod ({ cls := "StackJudgeModel", name := "check", desc := "()I" } : Jvm.MethodName)) ∈ gW := gW_mem 397 (by decide +kernel) rfl
theorem k_398 : (Jvm.Cond.selects "StackJudgeModel" ({ cls := "StackJudgeModel", name := "check", desc := "()I" } : Jvm.MethodName) ({ cls := "StackJudgeModel", name := "check", desc := "()I" } : Jvm.MethodName)) ∈ gW := gW_mem 398 (by decide +kernel) rfl
theorem k_399 : (Jvm.Cond.code ({ cls := "StackJudgeModel", name := "check", desc := "()I" } : Jvm.MethodName) prog_8_method_12_code (4 : Nat) (Option.some Jvm.ClassFile.FieldType.int)) ∈ gW := gW_mem 399 (by decide +kernel) rfl
theorem k_400 : (Jvm.Cond.methodLink "StackJudgeLaw" (48 : Nat) ({ cls := "StackJudgeModel", name := "call", desc := "(III)I" } : Jvm.MethodName)) ∈ gW := gW_mem 400 (by decide +kernel) rfl
theorem k_401 : (Jvm.Cond.instanceMethod ({ cls := "StackJudgeModel", name := "call", desc := "(III)I" } : Jvm.MethodName)) ∈ gW := gW_mem 401 (by decide +kernel) rfl
theorem k_402 : (Jvm.Cond.selects "StackJudgeModel" ({ cls := "StackJudgeModel", name := "call", desc := "(III)I" } : Jvm.MethodName) ({ cls := "StackJudgeModel", name := "call", desc := "(III)I" } : Jvm.MethodName)) ∈ gW := gW_mem 402 (by decide +kernel) rfl
theorem k_403 : (Jvm.Cond.code ({ cls := "StackJudgeModel", name := "call", desc := "(III)I" } : Jvm.MethodName) prog_8_method_15_code (5 : Nat) (Option.some Jvm.ClassFile.FieldType.int)) ∈ gW := gW_mem 403 (by decide +kernel) rfl
theorem k_404 : (Jvm.Cond.methodLink "StackJudgeModel" (76 : Nat) ({ cls := "StackJudgeModel", name := "check", desc := "()I" } : Jvm.MethodName)) ∈ gW := gW_mem 404 (by decide +kernel) rfl
theorem k_405 : (Jvm.Cond.methodLink "StackJudgeModel" (80 : Nat) ({ cls := "StackJudgeModel", name := "done", desc := "(III)I" } : Jvm.MethodName)) ∈ gW := gW_mem 405 (by decide +kernel) rfl
theorem k_407 : (Jvm.Cond.instanceMethod ({ cls := "StackJudgeModel", name := "done", desc := "(III)I" } : Jvm.MethodName)) ∈ gW := gW_mem 407 (by decide +kernel) rfl
theorem k_408 : (Jvm.Cond.code ({ cls := "StackJudgeModel", name := "done", desc := "(III)I" } : Jvm.MethodName) prog_8_method_14_code (9 : Nat) (Option.some Jvm.ClassFile.FieldType.int)) ∈ gW := gW_mem 408 (by decide +kernel) rfl
theorem k_409 : (Jvm.Cond.methodLink "StackJudgeModel" (72 : Nat) ({ cls := "StackJudgeModel", name := "reckoned", desc := "(III)I" } : Jvm.MethodName)) ∈ gW := gW_mem 409 (by decide +kernel) rfl
theorem k_410 : (Jvm.Cond.static ({ cls := "StackJudgeModel", name := "reckoned", desc := "(III)I" } : Jvm.MethodName)) ∈ gW := gW_mem 410 (by decide +kernel) rfl
theorem k_411 : (Jvm.Cond.code ({ cls := "StackJudgeModel", name := "reckoned", desc := "(III)I" } : Jvm.MethodName) prog_8_method_13_code (3 : Nat) (Option.some Jvm.ClassFile.FieldType.int)) ∈ gW := gW_mem 411 (by decide +kernel) rfl
theorem k_412 : (Jvm.Cond.methodLink "StackJudgeLaw" (52 : Nat) ({ cls := "StackJudgeModel", name := "result", desc := "()I" } : Jvm.MethodName)) ∈ gW := gW_mem 412 (by decide +kernel) rfl
theorem k_413 : (Jvm.Cond.instanceMethod ({ cls := "StackJudgeModel", name := "result", desc := "()I" } : Jvm.MethodName)) ∈ gW := gW_mem 413 (by decide +kernel) rfl
theorem k_414 : (Jvm.Cond.selects "StackJudgeModel" ({ cls := "StackJudgeModel", name := "result", desc := "()I" } : Jvm.MethodName) ({ cls := "StackJudgeModel", name := "result", desc := "()I" } : Jvm.MethodName)) ∈ gW := gW_mem 414 (by decide +kernel) rfl
theorem k_415 : (Jvm.Cond.code ({ cls := "StackJudgeModel", name := "result", desc := "()I" } : Jvm.MethodName) prog_8_method_16_code (1 : Nat) (Option.some Jvm.ClassFile.FieldType.int)) ∈ gW := gW_mem 415 (by decide +kernel) rfl
theorem k_416 : (Jvm.Cond.methodLink "StackJudgeLaw" (56 : Nat) ({ cls := "StackJudgeModel", name := "steps", desc := "()I" } : Jvm.MethodName)) ∈ gW := gW_mem 416 (by decide +kernel) rfl
theorem k_417 : (Jvm.Cond.instanceMethod ({ cls := "StackJudgeModel", name := "steps", desc := "()I" } : Jvm.MethodName)) ∈ gW := gW_mem 417 (by decide +kernel) rfl
theorem k_418 : (Jvm.Cond.selects "StackJudgeModel" ({ cls := "StackJudgeModel", name := "steps", desc := "()I" } : Jvm.MethodName) ({ cls := "StackJudgeModel", name := "steps", desc := "()I" } : Jvm.MethodName)) ∈ gW := gW_mem 418 (by decide +kernel) rfl
theorem k_419 : (Jvm.Cond.code ({ cls := "StackJudgeModel", name := "steps", desc := "()I" } : Jvm.MethodName) prog_8_method_17_code (1 : Nat) (Option.some Jvm.ClassFile.FieldType.int)) ∈ gW := gW_mem 419 (by decide +kernel) rfl
theorem k_420 : (Jvm.Cond.methodLink "StackJudgeLaw" (60 : Nat) ({ cls := "StackJudgeModel", name := "pairs", desc := "()I" } : Jvm.MethodName)) ∈ gW := gW_mem 420 (by decide +kernel) rfl
theorem k_421 : (Jvm.Cond.instanceMethod ({ cls := "StackJudgeModel", name := "pairs", desc := "()I" } : Jvm.MethodName)) ∈ gW := gW_mem 421 (by decide +kernel) rfl
theorem k_422 : (Jvm.Cond.selects "StackJudgeModel" ({ cls := "StackJudgeModel", name := "pairs", desc := "()I" } : Jvm.MethodName) ({ cls := "StackJudgeModel", name := "pairs", desc := "()I" } : Jvm.MethodName)) ∈ gW := gW_mem 422 (by decide +kernel) rfl
theorem k_423 : (Jvm.Cond.code ({ cls := "StackJudgeModel", name := "pairs", desc := "()I" } : Jvm.MethodName) prog_8_method_18_code (1 : Nat) (Option.some Jvm.ClassFile.FieldType.int)) ∈ gW := gW_mem 423 (by decide +kernel) rfl
theorem k_424 : (Jvm.Cond.methodLink "StackJudgeLaw" (65 : Nat) ({ cls := "StackJudgeModel", name := "pair", desc := "(II)J" } : Jvm.MethodName)) ∈ gW := gW_mem 424 (by decide +kernel) rfl
theorem k_425 : (Jvm.Cond.instanceMethod ({ cls := "StackJudgeModel", name := "pair", desc := "(II)J" } : Jvm.MethodName)) ∈ gW := gW_mem 425 (by decide +kernel) rfl
theorem k_426 : (Jvm.Cond.selects "StackJudgeModel" ({ cls := "StackJudgeModel", name := "pair", desc := "(II)J" } : Jvm.MethodName) ({ cls := "StackJudgeModel", name := "pair", desc := "(II)J" } : Jvm.MethodName)) ∈ gW := gW_mem 426 (by decide +kernel) rfl
theorem k_427 : (Jvm.Cond.code ({ cls := "StackJudgeModel", name := "pair", desc := "(II)J" } : Jvm.MethodName) prog_8_method_19_code (3 : Nat) (Option.some Jvm.ClassFile.FieldType.long)) ∈ gW := gW_mem 427 (by decide +kernel) rfl
theorem k_428 : (Jvm.Cond.constantLong "StackJudgeModel" (83 : Nat) (1099511627776 : Int64)) ∈ gW := gW_mem 428 (by decide +kernel) rfl
theorem in_SJ : ∀ w ∈ u_ws R_SJ F_SJ 3, w ∈ gW := List.forall_mem_cons.mpr ⟨k_122, List.forall_mem_cons.mpr ⟨k_124, List.forall_mem_cons.mpr ⟨k_126, fun _ h => absurd h List.not_mem_nil⟩⟩⟩
theorem in_Program : ∀ w ∈ u_ws R_Program F_Program 5, w ∈ gW := List.forall_mem_cons.mpr ⟨k_48, List.forall_mem_cons.mpr ⟨k_50, List.forall_mem_cons.mpr ⟨k_52, List.forall_mem_cons.mpr ⟨k_54, List.forall_mem_cons.mpr ⟨k_56, fun _ h => absurd h List.not_mem_nil⟩⟩⟩⟩⟩
theorem in_Ways : ∀ w ∈ u_ws R_Ways F_Ways 3, w ∈ gW := List.forall_mem_cons.mpr ⟨k_70, List.forall_mem_cons.mpr ⟨k_72, List.forall_mem_cons.mpr ⟨k_74, fun _ h => absurd h List.not_mem_nil⟩⟩⟩
theorem in_Machine : ∀ w ∈ u_ws R_Machine F_Machine 10, w ∈ gW := List.forall_mem_cons.mpr ⟨k_98, List.forall_mem_cons.mpr ⟨k_100, List.forall_mem_cons.mpr ⟨k_102, List.forall_mem_cons.mpr ⟨k_104, List.forall_mem_cons.mpr ⟨k_106, List.forall_mem_cons.mpr ⟨k_108, List.forall_mem_cons.mpr ⟨k_110, List.forall_mem_cons.mpr ⟨k_112, List.forall_mem_cons.mpr ⟨k_114, List.forall_mem_cons.mpr ⟨k_116, fun _ h => absurd h List.not_mem_nil⟩⟩⟩⟩⟩⟩⟩⟩⟩⟩
theorem in_Model : ∀ w ∈ u_ws R_Model F_Model 13, w ∈ gW := List.forall_mem_cons.mpr ⟨k_329, List.forall_mem_cons.mpr ⟨k_331, List.forall_mem_cons.mpr ⟨k_333, List.forall_mem_cons.mpr ⟨k_335, List.forall_mem_cons.mpr ⟨k_337, List.forall_mem_cons.mpr ⟨k_339, List.forall_mem_cons.mpr ⟨k_341, List.forall_mem_cons.mpr ⟨k_343, List.forall_mem_cons.mpr ⟨k_345, List.forall_mem_cons.mpr ⟨k_347, List.forall_mem_cons.mpr ⟨k_349, List.forall_mem_cons.mpr ⟨k_351, List.forall_mem_cons.mpr ⟨k_353, fun _ h => absurd h List.not_mem_nil⟩⟩⟩⟩⟩⟩⟩⟩⟩⟩⟩⟩⟩
abbrev w_SJ_init : List Cond := .code y_SJ_init b_SJ_init 2 none :: gW
abbrev w_SJ_code : List Cond := .code y_SJ_code b_SJ_code 3 (some .int) :: gW
abbrev w_SJ_clear : List Cond := .code y_SJ_clear b_SJ_clear 2 (some .int) :: gW
abbrev w_SJ_drop : List Cond := .code y_SJ_drop b_SJ_drop 1 (some .int) :: gW
abbrev w_SJ_check : List Cond := .code y_SJ_check b_SJ_check 1 (some .int) :: gW
abbrev w_SJ_heights : List Cond := .code y_SJ_heights b_SJ_heights 2 (some .int) :: gW
abbrev w_SJ_call : List Cond := .code y_SJ_call b_SJ_call 4 (some .int) :: gW
abbrev w_SJ_result : List Cond := .code y_SJ_result b_SJ_result 1 (some .int) :: gW
abbrev w_SJ_steps : List Cond := .code y_SJ_steps b_SJ_steps 1 (some .int) :: gW
abbrev w_SJ_pairs : List Cond := .code y_SJ_pairs b_SJ_pairs 1 (some .int) :: gW
abbrev w_SJ_pair : List Cond := .code y_SJ_pair b_SJ_pair 3 (some .long) :: gW
abbrev w_SJ_read : List Cond := .code y_SJ_read b_SJ_read 2 (some .int) :: gW
abbrev w_SJ_write : List Cond := .code y_SJ_write b_SJ_write 3 none :: gW
abbrev w_Model_init : List Cond := .code y_Model_init b_Model_init 2 none :: gW
abbrev w_Model_code : List Cond := .code y_Model_code b_Model_code 3 (some .int) :: gW
abbrev w_Model_clear : List Cond := .code y_Model_clear b_Model_clear 2 (some .int) :: gW
abbrev w_Model_drop : List Cond := .code y_Model_drop b_Model_drop 1 (some .int) :: gW
abbrev w_Model_isBad : List Cond := .code y_Model_isBad b_Model_isBad 4 (some .boolean) :: gW
abbrev w_Model_needs : List Cond := .code y_Model_needs b_Model_needs 2 (some .int) :: gW
abbrev w_Model_grows : List Cond := .code y_Model_grows b_Model_grows 1 (some .int) :: gW
abbrev w_Model_reach : List Cond := .code y_Model_reach b_Model_reach 3 none :: gW
abbrev w_Model_goOn : List Cond := .code y_Model_goOn b_Model_goOn 6 none :: gW
abbrev w_Model_fill : List Cond := .code y_Model_fill b_Model_fill 3 none :: gW
abbrev w_Model_heights : List Cond := .code y_Model_heights b_Model_heights 4 (some .int) :: gW
abbrev w_Model_check : List Cond := .code y_Model_check b_Model_check 4 (some .int) :: gW
abbrev w_Model_reckoned : List Cond := .code y_Model_reckoned b_Model_reckoned 3 (some .int) :: gW
abbrev w_Model_done : List Cond := .code y_Model_done b_Model_done 9 (some .int) :: gW
abbrev w_Model_call : List Cond := .code y_Model_call b_Model_call 5 (some .int) :: gW
abbrev w_Model_result : List Cond := .code y_Model_result b_Model_result 1 (some .int) :: gW
abbrev w_Model_steps : List Cond := .code y_Model_steps b_Model_steps 1 (some .int) :: gW
abbrev w_Model_pairs : List Cond := .code y_Model_pairs b_Model_pairs 1 (some .int) :: gW
abbrev w_Model_pair : List Cond := .code y_Model_pair b_Model_pair 3 (some .long) :: gW
abbrev w_Machine_init : List Cond := .code y_Machine_init b_Machine_init 1 none :: gW
abbrev w_Machine_run : List Cond := .code y_Machine_run b_Machine_run 7 (some .int) :: gW
abbrev w_Machine_begin : List Cond := .code y_Machine_begin b_Machine_begin 4 none :: gW
abbrev w_Machine_doOne : List Cond := .code y_Machine_doOne b_Machine_doOne 4 (some .int) :: gW
abbrev w_Machine_move : List Cond := .code y_Machine_move b_Machine_move 8 none :: gW
abbrev w_Machine_combine : List Cond := .code y_Machine_combine b_Machine_combine 3 (some .int) :: gW
abbrev w_Machine_emit : List Cond := .code y_Machine_emit b_Machine_emit 1 (some .int) :: gW
abbrev w_Machine_push : List Cond := .code y_Machine_push b_Machine_push 2 none :: gW
abbrev w_Machine_pop : List Cond := .code y_Machine_pop b_Machine_pop 1 (some .int) :: gW
abbrev w_Op_isOf : List Cond := .code y_Op_isOf b_Op_isOf 2 (some .boolean) :: gW
abbrev w_Op_needs : List Cond := .code y_Op_needs b_Op_needs 2 (some .int) :: gW
abbrev w_Op_growth : List Cond := .code y_Op_growth b_Op_growth 1 (some .int) :: gW
abbrev w_Op_jumps : List Cond := .code y_Op_jumps b_Op_jumps 1 (some .boolean) :: gW
abbrev w_Op_hasNext : List Cond := .code y_Op_hasNext b_Op_hasNext 1 (some .boolean) :: gW
abbrev w_Program_init : List Cond := .code y_Program_init b_Program_init 2 none :: gW
abbrev w_Program_append : List Cond := .code y_Program_append b_Program_append 3 (some .boolean) :: gW
abbrev w_Program_keepFirst : List Cond := .code y_Program_keepFirst b_Program_keepFirst 2 none :: gW
abbrev w_Program_has : List Cond := .code y_Program_has b_Program_has 2 (some .boolean) :: gW
abbrev w_Program_opAt : List Cond := .code y_Program_opAt b_Program_opAt 2 (some .int) :: gW
abbrev w_Program_nAt : List Cond := .code y_Program_nAt b_Program_nAt 2 (some .int) :: gW
abbrev w_Program_isWellFormed : List Cond := .code y_Program_isWellFormed b_Program_isWellFormed 5 (some .boolean) :: gW
abbrev w_Program_limitOfN : List Cond := .code y_Program_limitOfN b_Program_limitOfN 2 (some .int) :: gW
abbrev w_Program_canBeDone : List Cond := .code y_Program_canBeDone b_Program_canBeDone 4 (some .boolean) :: gW
abbrev w_Ways_init : List Cond := .code y_Ways_init b_Ways_init 1 none :: gW
abbrev w_Ways_follow : List Cond := .code y_Ways_follow b_Ways_follow 4 none :: gW
abbrev w_Ways_goOn : List Cond := .code y_Ways_goOn b_Ways_goOn 6 none :: gW
abbrev w_Ways_reach : List Cond := .code y_Ways_reach b_Ways_reach 4 none :: gW
abbrev w_Ways_isReached : List Cond := .code y_Ways_isReached b_Ways_isReached 3 (some .boolean) :: gW
abbrev w_Ways_firstWrong : List Cond := .code y_Ways_firstWrong b_Ways_firstWrong 3 (some .int) :: gW
abbrev w_Ways_isWrong : List Cond := .code y_Ways_isWrong b_Ways_isWrong 4 (some .boolean) :: gW
abbrev w_Law_cell : List Cond := .code y_Law_cell b_Law_cell 2 (some .int) :: gW
abbrev w_Integer_bitCount : List Cond := .code y_Integer_bitCount b_Integer_bitCount 1 (some .int) :: gW
abbrev w_Arrays_fill : List Cond := .code y_Arrays_fill b_Arrays_fill 4 none :: gW
def nW : List Cond := [(Jvm.Cond.methodLinkNest "StackJudge" (20 : Nat) ({ cls := "StackJudge$Ways", name := "<init>", desc := "()V" } : Jvm.MethodName) "StackJudge"), (Jvm.Cond.methodLinkNest "StackJudge" (27 : Nat) ({ cls := "StackJudge$Machine", name := "<init>", desc := "()V" } : Jvm.MethodName) "StackJudge"), (Jvm.Cond.methodLinkNest "StackJudge$Program" (30 : Nat) ({ cls := "StackJudge", name := "write", desc := "([III)V" } : Jvm.MethodName) "StackJudge"), (Jvm.Cond.methodLinkNest "StackJudge$Ways" (32 : Nat) ({ cls := "StackJudge", name := "read", desc := "([II)I" } : Jvm.MethodName) "StackJudge"), (Jvm.Cond.methodLinkNest "StackJudge$Ways" (70 : Nat) ({ cls := "StackJudge", name := "write", desc := "([III)V" } : Jvm.MethodName) "StackJudge"), (Jvm.Cond.methodLinkNest "StackJudge$Program" (34 : Nat) ({ cls := "StackJudge", name := "read", desc := "([II)I" } : Jvm.MethodName) "StackJudge"), (Jvm.Cond.methodLinkNest "StackJudge$Op" (15 : Nat) ({ cls := "StackJudge", name := "read", desc := "([II)I" } : Jvm.MethodName) "StackJudge"), (Jvm.Cond.methodLinkNest "StackJudge$Machine" (57 : Nat) ({ cls := "StackJudge", name := "write", desc := "([III)V" } : Jvm.MethodName) "StackJudge"), (Jvm.Cond.methodLinkNest "StackJudge$Machine" (88 : Nat) ({ cls := "StackJudge", name := "read", desc := "([II)I" } : Jvm.MethodName) "StackJudge")]
theorem nm_0 : (Jvm.Cond.methodLinkNest "StackJudge" (20 : Nat) ({ cls := "StackJudge$Ways", name := "<init>", desc := "()V" } : Jvm.MethodName) "StackJudge") ∈ nW := List.mem_of_getElem? (i := 0) rfl
theorem nm_1 : (Jvm.Cond.methodLinkNest "StackJudge" (27 : Nat) ({ cls := "StackJudge$Machine", name := "<init>", desc := "()V" } : Jvm.MethodName) "StackJudge") ∈ nW := List.mem_of_getElem? (i := 1) rfl
theorem nm_2 : (Jvm.Cond.methodLinkNest "StackJudge$Program" (30 : Nat) ({ cls := "StackJudge", name := "write", desc := "([III)V" } : Jvm.MethodName) "StackJudge") ∈ nW := List.mem_of_getElem? (i := 2) rfl
theorem nm_3 : (Jvm.Cond.methodLinkNest "StackJudge$Ways" (32 : Nat) ({ cls := "StackJudge", name := "read", desc := "([II)I" } : Jvm.MethodName) "StackJudge") ∈ nW := List.mem_of_getElem? (i := 3) rfl
theorem nm_4 : (Jvm.Cond.methodLinkNest "StackJudge$Ways" (70 : Nat) ({ cls := "StackJudge", name := "write", desc := "([III)V" } : Jvm.MethodName) "StackJudge") ∈ nW := List.mem_of_getElem? (i := 4) rfl
theorem nm_5 : (Jvm.Cond.methodLinkNest "StackJudge$Program" (34 : Nat) ({ cls := "StackJudge", name := "read", desc := "([II)I" } : Jvm.MethodName) "StackJudge") ∈ nW := List.mem_of_getElem? (i := 5) rfl
theorem nm_6 : (Jvm.Cond.methodLinkNest "StackJudge$Op" (15 : Nat) ({ cls := "StackJudge", name := "read", desc := "([II)I" } : Jvm.MethodName) "StackJudge") ∈ nW := List.mem_of_getElem? (i := 6) rfl
theorem nm_7 : (Jvm.Cond.methodLinkNest "StackJudge$Machine" (57 : Nat) ({ cls := "StackJudge", name := "write", desc := "([III)V" } : Jvm.MethodName) "StackJudge") ∈ nW := List.mem_of_getElem? (i := 7) rfl
theorem nm_8 : (Jvm.Cond.methodLinkNest "StackJudge$Machine" (88 : Nat) ({ cls := "StackJudge", name := "read", desc := "([II)I" } : Jvm.MethodName) "StackJudge") ∈ nW := List.mem_of_getElem? (i := 8) rfl
theorem nW_on : ∀ w ∈ nW, w.onTables = true := List.forall_mem_cons.mpr ⟨rfl, List.forall_mem_cons.mpr ⟨rfl, List.forall_mem_cons.mpr ⟨rfl, List.forall_mem_cons.mpr ⟨rfl, List.forall_mem_cons.mpr ⟨rfl, List.forall_mem_cons.mpr ⟨rfl, List.forall_mem_cons.mpr ⟨rfl, List.forall_mem_cons.mpr ⟨rfl, List.forall_mem_cons.mpr ⟨rfl, fun _ h => absurd h List.not_mem_nil⟩⟩⟩⟩⟩⟩⟩⟩⟩
def NWs (U : State) : Prop := ∀ w ∈ nW, va_Nw w U
theorem NWs.warm {s U : State} (hW : s.WarmedH U.vm) (h : NWs s) : NWs U := List.forall_mem_cons.mpr ⟨va_Nw.warmM hW (h _ nm_0), List.forall_mem_cons.mpr ⟨va_Nw.warmM hW (h _ nm_1), List.forall_mem_cons.mpr ⟨va_Nw.warmM hW (h _ nm_2), List.forall_mem_cons.mpr ⟨va_Nw.warmM hW (h _ nm_3), List.forall_mem_cons.mpr ⟨va_Nw.warmM hW (h _ nm_4), List.forall_mem_cons.mpr ⟨va_Nw.warmM hW (h _ nm_5), List.forall_mem_cons.mpr ⟨va_Nw.warmM hW (h _ nm_6), List.forall_mem_cons.mpr ⟨va_Nw.warmM hW (h _ nm_7), List.forall_mem_cons.mpr ⟨va_Nw.warmM hW (h _ nm_8), fun _ h => absurd h List.not_mem_nil⟩⟩⟩⟩⟩⟩⟩⟩⟩
end
section
/-! the system's words: rows read and written by index, ops, the program, the ways, the machine -/
def rd (f : Nat → Int32) (n : Nat) (i : Int32) : Int32 := if i < 0 then 0 else if nI n ≤ i then 0 else f i.toNatClampNeg
def wr (f : Nat → Int32) (n : Nat) (i v : Int32) : Nat → Int32 := if i < 0 then f else if nI n ≤ i then f else upd f i.toNatClampNeg v
def tNeeds (j : Nat) : Int32 := ([0, 0, 0, 1, 1, 2, 1, 2, 2, 2, 2, 2, 2, 2, 0, 1, 2, 1, 0] : List Int32).getD j 0
def tGrow (j : Nat) : Int32 := ([1, 1, 1, -1, 1, 0, -1, -1, -1, -1, -1, -1, -1, -1, 0, -1, -2, 0, 0] : List Int32).getD j 0
def o_isOf (op kd : Int32) : Int32 := if op = 16 then (if kd = 0 then 1 else 0) else if op = 18 then (if kd = 3 then 1 else 0) else if op < 0 then 0 else if 17 < op then 0 else 1
def o_needs (op kd : Int32) : Int32 := if op = 17 then (if kd = 0 then 0 else rd tNeeds 19 op) else rd tNeeds 19 op
def o_grow (op : Int32) : Int32 := rd tGrow 19 op
def o_jump (op : Int32) : Int32 := if op = 14 then 1 else if op = 15 then 1 else 0
def o_next (op : Int32) : Int32 := if op = 14 then 0 else if op = 17 then 0 else if op = 18 then 0 else 1
def p_has (sz k : Int32) : Int32 := if k < 0 then 0 else if sz ≤ k then 0 else 1
def p_lim (ac sz op : Int32) : Int32 := if op = 1 then ac else if op = 2 then 4 else if op = 3 then 4 else if op = 14 then sz else if op = 15 then sz else -1
def p_wf (kd sz ac : Int32) (fo fn : Nat → Int32) (k : Int32) : Int32 := if o_isOf (rd fo 64 k) kd = 0 then 0 else if p_lim ac sz (rd fo 64 k) = -1 then 1 else if rd fn 64 k < 0 then 0 else if p_lim ac sz (rd fo 64 k) ≤ rd fn 64 k then 0 else 1
def p_fit (kd op h : Int32) : Int32 := if h < o_needs op kd then 0 else if 8 < h + o_grow op then 0 else 1
def p_cbd (kd sz ac : Int32) (fo fn : Nat → Int32) (k h : Int32) : Int32 := if p_wf kd sz ac fo fn k = 0 then 0 else if o_next (rd fo 64 k) = 0 then p_fit kd (rd fo 64 k) h else if p_has sz (k + 1) = 0 then 0 else p_fit kd (rd fo 64 k) h
abbrev WS : Type := (Nat → Int32) × (Nat → Int32) × Int32
def w_isR (fr : Nat → Int32) (k h : Int32) : Int32 := if (rd fr 64 k >>> (h &&& 31)) &&& 1 = 0 then 0 else 1
def w_reach (sz k h : Int32) (u : WS) : WS := if p_has sz k = 0 then u else if w_isR u.1 k h = 0 then (wr u.1 64 k (rd u.1 64 k ||| (1 <<< (h &&& 31))), wr u.2.1 576 u.2.2 (k * 9 + h), u.2.2 + 1) else u
def w_goOn (kd sz ac : Int32) (fo fn : Nat → Int32) (k h : Int32) (u : WS) : WS :=
  if p_cbd kd sz ac fo fn k h = 0 then u else
  if o_next (rd fo 64 k) = 0 then (if o_jump (rd fo 64 k) = 0 then u else w_reach sz (rd fn 64 k) (h + o_grow (rd fo 64 k)) u)
  else (if o_jump (rd fo 64 k) = 0 then w_reach sz (k + 1) (h + o_grow (rd fo 64 k)) u else w_reach sz (rd fn 64 k) (h + o_grow (rd fo 64 k)) (w_reach sz (k + 1) (h + o_grow (rd fo 64 k)) u))
def w_loop (kd sz ac : Int32) (fo fn : Nat → Int32) : Nat → Int32 → WS → WS
  | 0, _, u => u
  | n + 1, i, u => if nI 576 ≤ i then u else if u.2.2 ≤ i then u else w_loop kd sz ac fo fn n (i + 1) (w_goOn kd sz ac fo fn (rd u.2.1 576 i / 9) (rd u.2.1 576 i - rd u.2.1 576 i / 9 * 9) u)
def w_follow (kd sz ac : Int32) (fo fn fw : Nat → Int32) : WS := w_loop kd sz ac fo fn 576 0 (w_reach sz 0 0 (fun _ => 0, fw, 0))
def w_wrongL (kd sz ac : Int32) (fo fn fr : Nat → Int32) (k : Int32) : Nat → Int32 → Int32
  | 0, _ => 0
  | n + 1, h => if 9 ≤ h then 0 else if w_isR fr k h = 0 then w_wrongL kd sz ac fo fn fr k n (h + 1) else if p_cbd kd sz ac fo fn k h = 0 then 1 else w_wrongL kd sz ac fo fn fr k n (h + 1)
abbrev MS : Type := Int32 × Int32 × Int32 × (Nat → Int32) × (Nat → Int32) × (Nat → Int32) × (Nat → Int32) × (Nat → Int32) × Int32 × Int32
def m_comb (op x y : Int32) : Int32 := if op = 7 then x + y else if op = 8 then x - y else if op = 9 then x * y else if op = 10 then (if y = 0 then 0 else x / y) else if op = 11 then (if y = 0 then 0 else x - x / y * y) else if op = 12 then (if y ≤ x then 0 else 1) else (if x = y then 1 else 0)
def m_move (op n : Int32) : MS → MS
  | (res, stp, pcn, fk, fv, fa, fl, fs, ht, ap) =>
    if op = 0 then (res, stp, pcn, fk, fv, fa, fl, wr fs 8 ht n, ht + 1, ap)
    else if op = 1 then (res, stp, pcn, fk, fv, fa, fl, wr fs 8 ht (rd fa 3 n), ht + 1, ap)
    else if op = 2 then (res, stp, pcn, fk, fv, fa, fl, wr fs 8 ht (rd fl 4 n), ht + 1, ap)
    else if op = 3 then (res, stp, pcn, fk, fv, fa, wr fl 4 n (rd fs 8 (ht - 1)), fs, ht - 1, ap)
    else if op = 4 then (res, stp, pcn, fk, fv, fa, fl, wr (wr fs 8 (ht - 1) (rd fs 8 (ht - 1))) 8 (ht - 1 + 1) (rd fs 8 (ht - 1)), ht - 1 + 1 + 1, ap)
    else if op = 5 then (res, stp, pcn, fk, fv, fa, fl, wr (wr fs 8 (ht - 1 - 1) (rd fs 8 (ht - 1))) 8 (ht - 1 - 1 + 1) (rd fs 8 (ht - 1 - 1)), ht - 1 - 1 + 1 + 1, ap)
    else if op = 6 then (res, stp, pcn, fk, fv, fa, fl, fs, ht - 1, ap)
    else (res, stp, pcn, fk, fv, fa, fl, wr fs 8 (ht - 1 - 1) (m_comb op (rd fs 8 (ht - 1 - 1)) (rd fs 8 (ht - 1))), ht - 1 - 1 + 1, ap)
def m_emit : MS → Int32 × MS
  | (res, stp, pcn, fk, fv, fa, fl, fs, ht, ap) =>
    if pcn < 20 then (3, (res, stp, pcn + 1, wr fk 20 pcn (rd fs 8 (ht - 1 - 1)), wr fv 20 pcn (rd fs 8 (ht - 1)), fa, fl, fs, ht - 1 - 1, ap))
    else (2, (res, stp, pcn, fk, fv, fa, fl, fs, ht, ap))
def m_one (op n kd : Int32) : MS → Int32 × MS
  | (res, stp, pcn, fk, fv, fa, fl, fs, ht, ap) =>
    if op = 14 then (3, (res, stp, pcn, fk, fv, fa, fl, fs, ht, n))
    else if op = 15 then (if rd fs 8 (ht - 1) = 0 then (3, (res, stp, pcn, fk, fv, fa, fl, fs, ht - 1, n)) else (3, (res, stp, pcn, fk, fv, fa, fl, fs, ht - 1, ap + 1)))
    else if op = 16 then m_emit (res, stp, pcn, fk, fv, fa, fl, fs, ht, ap + 1)
    else if op = 17 then (if kd = 0 then (0, (0, stp, pcn, fk, fv, fa, fl, fs, ht, ap + 1)) else (0, (rd fs 8 (ht - 1), stp, pcn, fk, fv, fa, fl, fs, ht - 1, ap + 1)))
    else if op = 18 then (1, (res, stp, pcn, fk, fv, fa, fl, fs, ht, ap + 1))
    else (3, m_move op n (res, stp, pcn, fk, fv, fa, fl, fs, ht, ap + 1))
def m_tick : MS → MS
  | (res, stp, pcn, fk, fv, fa, fl, fs, ht, ap) => (res, stp + 1, pcn, fk, fv, fa, fl, fs, ht, ap)
def m_ap : MS → Int32
  | (_, _, _, _, _, _, _, _, _, ap) => ap
def m_zero : MS → MS
  | (res, stp, _, fk, fv, fa, fl, fs, ht, ap) => (res, stp, 0, fk, fv, fa, fl, fs, ht, ap)
def m_loop (kd : Int32) (fo fn : Nat → Int32) : Nat → Int32 → MS → Int32 × MS
  | 0, o, S => (o, S)
  | n + 1, o, S => if o = 3 then m_loop kd fo fn n (m_one (rd fo 64 (m_ap S)) (rd fn 64 (m_ap S)) kd (m_tick S)).1 (m_one (rd fo 64 (m_ap S)) (rd fn 64 (m_ap S)) kd (m_tick S)).2 else (o, S)
def m_fin (x : Int32 × MS) : Int32 × MS := if x.1 = 3 then (2, m_zero x.2) else if x.1 = 2 then (2, m_zero x.2) else x
def m_begin (a b c : Int32) : MS → MS
  | (_, _, _, fk, fv, fa, _, fs, _, _) => (0, 0, 0, fk, fv, wr (wr (wr fa 3 0 a) 3 1 b) 3 2 c, fun _ => 0, fs, 0, 0)
def m_run (kd : Int32) (fo fn : Nat → Int32) (a b c : Int32) (S : MS) : Int32 × MS := m_fin (m_loop kd fo fn 300 3 (m_begin a b c S))
end
section
abbrev rmk (k : Nat) : Room := { frames := k, cells := 0, slots := 0, locals := 40 * k }
def RP (a n : Nat) (f : Nat → Int32) (U : State) : Prop := va_T .int a n (fun j => .int (f j)) (fun _ => False) U U.heap
theorem RP_blind {av : List Value} {a n : Nat} {f : Nat → Int32} : FrameBlind (va_Pc av (RP a n f)) := fun a U g mk q => ⟨q.1, va_T.moved (u := U) (U := U.calling g mk a) (Vm.Alike.refl U.vm) q.2⟩
theorem rp_pre {s : State} {H : Heap} {D : va_G} {cl : List vw_C} {tys : List (ClassId × FieldType)} {ws : va_W} {cA : ClassId} {a n : Nat} {f : Nat → Int32} {i : Int32} (hK : va_K D cl tys s) (hP : va_P D cl ws H) (q0 t0 : Nat) (ha : ws[q0]? = some (a, .inl (cA, n, .inl f))) (ht : tys[t0]? = some (cA, .int)) : PreS s H (va_Pc [.ref a, .int i] (RP a n f)) [.ref a, .int i] := by
  refine ⟨RP_blind, fun U hU hW => ⟨rfl, ?_⟩⟩
  have hcell : H[a]? = some (vp_cell cA (n, .inl f)) := hP q0 _ ha
  refine ⟨vp_cell cA (n, .inl f), by rw [hU]; exact hcell, State.isArrayOf_alike hW.alike ((hK.2 t0 _ ht).1 n (fun j => .int (f j))), (fun q => by cases q), ?_, ?_, fun j hj => ?_, fun h => h⟩
  · show n ≤ (arrV _ _ _).slots.size
    rw [arrV_size]
    exact Nat.le_refl _
  · show (arrV _ _ _).slots.size.toInt32 = _
    rw [arrV_size]
  · show (arrV _ _ _).slots[j]? = _
    rw [arrV_read _ _ hj]
theorem nI_inr {n : Nat} {i : Int32} (hn : n < 2 ^ 31) (h1 : ¬ i < 0) (h2 : ¬ nI n ≤ i) : vp_in i n := by
  obtain ⟨j, hj, rfl⟩ := nI_of h1
  rw [nI_leI hn hj] at h2
  exact vp_in_nI (by omega) hn
section
variable (D : va_G) (cI cZ : ClassId) (tN tG : Nat)
theorem NWs.same {u U : State} (h : u.vm = U.vm) (hN : NWs u) : NWs U := fun w hw => va_Nw.same (nW_on w hw) h (hN w hw)
def EV (U : State) : Prop := va_K D classes [(cI, .int), (cZ, .boolean)] U ∧ NWs U
def ST (A : Nat → Prop) (U : State) (H : Heap) : Prop := va_Z R_Op "NEEDS" "[I" (.ref tN) A U H ∧ va_T .int tN 19 (fun j => .int (tNeeds j)) A U H ∧ va_Z R_Op "GROWTH" "[I" (.ref tG) A U H ∧ va_T .int tG 19 (fun j => .int (tGrow j)) A U H
def PZ (ws : va_W) (U : State) : Prop := va_P D classes ws U.heap ∧ EV D cI cZ U ∧ ST tN tG (fun _ => False) U U.heap
def MZ (ws : va_W) (sz : Nat) (U : State) : Prop := U.heap.size = sz ∧ va_P D classes ws U.heap ∧ EV D cI cZ U ∧ va_D (fun _ => True) ws ∧ ST tN tG (va_A ws sz) U U.heap
def ME (A : Nat → Prop) (ws1 : va_W) (t : State) : Prop := va_P D classes ws1 t.heap ∧ va_D A ws1
def PY (ws : va_W) (U : State) : Prop := va_P D classes ws U.heap ∧ EV D cI cZ U
def MY (ws : va_W) (sz : Nat) (U : State) : Prop := U.heap.size = sz ∧ va_P D classes ws U.heap ∧ EV D cI cZ U ∧ va_D (fun _ => True) ws
end
section
variable {D : va_G} {cI cZ : ClassId} {tN tG : Nat} {s U : State} {H : Heap} {A B : Nat → Prop} {locs : List Loc} {ws : va_W} {av As : List Value} {sz : Nat}
theorem EV.warm (hW : s.WarmedH U.vm) (h : EV D cI cZ s) : EV D cI cZ U := ⟨va_K.moved hW.alike h.1, NWs.warm hW h.2⟩
theorem EV.call {g : JFrame} {mk : MethodId} {a : Array Value} (h : EV D cI cZ U) : EV D cI cZ (U.calling g mk a) := ⟨va_K.moved (u := U) (U := U.calling g mk a) (Vm.Alike.refl U.vm) h.1, NWs.same (u := U) rfl h.2⟩
theorem ST.call {g : JFrame} {mk : MethodId} {a : Array Value} (h : ST tN tG A U U.heap) : ST tN tG A (U.calling g mk a) (U.calling g mk a).heap :=
  ⟨va_Z.moved (u := U) (U := U.calling g mk a) (Vm.Alike.refl U.vm) h.1, va_T.moved (u := U) (U := U.calling g mk a) (Vm.Alike.refl U.vm) h.2.1, va_Z.moved (u := U) (U := U.calling g mk a) (Vm.Alike.refl U.vm) h.2.2.1, va_T.moved (u := U) (U := U.calling g mk a) (Vm.Alike.refl U.vm) h.2.2.2⟩
theorem ST.use (hZ : ST tN tG A s s.heap) (hS : va_S A s.heap H locs) (hU : U.heap = H) (hW : s.WarmedH U.vm) (hB : ∀ q, B q → A q) : ST tN tG B U U.heap := by
  rw [hU]
  have hk : ∀ a : Nat, a < s.heap.size → ¬ A a → H[a]? = s.heap[a]? := fun a h1 h2 => hS.2.1 a h1 h2
  exact ⟨((hZ.1.kept hk).moved hW.alike).narrow hB, ((hZ.2.1.kept hk).moved hW.alike).narrow hB, ((hZ.2.2.1.kept hk).moved hW.alike).narrow hB, ((hZ.2.2.2.kept hk).moved hW.alike).narrow hB⟩
theorem PZ_blind : FrameBlind (va_Pc av (PZ D cI cZ tN tG ws)) := fun _ _ _ _ q => ⟨q.1, q.2.1, q.2.2.1.call, q.2.2.2.call⟩
theorem MZ_blind : FrameBlind (va_Pc av (MZ D cI cZ tN tG ws sz)) := fun _ _ _ _ q => ⟨q.1, q.2.1, q.2.2.1, q.2.2.2.1.call, q.2.2.2.2.1, q.2.2.2.2.2.call⟩
theorem PY_blind : FrameBlind (va_Pc av (PY D cI cZ ws)) := fun _ _ _ _ q => ⟨q.1, q.2.1, q.2.2.call⟩
theorem MY_blind : FrameBlind (va_Pc av (MY D cI cZ ws sz)) := fun _ _ _ _ q => ⟨q.1, q.2.1, q.2.2.1, q.2.2.2.1.call, q.2.2.2.2⟩
theorem pz_pre (hE : EV D cI cZ s) (hZ : ST tN tG A s s.heap) (hS : va_S A s.heap H locs) (hP : va_P D classes ws H) : ∀ U : State, U.heap = H → s.WarmedH U.vm → va_Pc av (PZ D cI cZ tN tG ws) av.toArray U :=
  fun U hU hW => ⟨rfl, by rw [hU]; exact hP, hE.warm hW, hZ.use hS hU hW (fun _ h => h.elim)⟩
theorem mz_pre (hE : EV D cI cZ s) (hZ : ST tN tG A s s.heap) (hS : va_S A s.heap H locs) (hP : va_P D classes ws H) (hD : va_D A ws) (hF : ∀ q, va_A ws H.size q → A q) : ∀ U : State, U.heap = H → s.WarmedH U.vm → va_Pc av (MZ D cI cZ tN tG ws H.size) av.toArray U :=
  fun U hU hW => ⟨rfl, by rw [hU], by rw [hU]; exact hP, hE.warm hW, hD.weaken (fun _ _ _ _ => trivial), hZ.use hS hU hW hF⟩
theorem py_pre (hE : EV D cI cZ s) (hP : va_P D classes ws H) : ∀ U : State, U.heap = H → s.WarmedH U.vm → va_Pc av (PY D cI cZ ws) av.toArray U :=
  fun U hU hW => ⟨rfl, by rw [hU]; exact hP, hE.warm hW⟩
theorem my_pre (hE : EV D cI cZ s) (hP : va_P D classes ws H) (hD : va_D A ws) : ∀ U : State, U.heap = H → s.WarmedH U.vm → va_Pc av (MY D cI cZ ws H.size) av.toArray U :=
  fun U hU hW => ⟨rfl, by rw [hU], by rw [hU]; exact hP, hE.warm hW, hD.weaken (fun _ _ _ _ => trivial)⟩
end
theorem rp_preT {s : State} {H : Heap} {A : Nat → Prop} {locs : List Loc} {a n : Nat} {f : Nat → Int32} {i : Int32} (hT : va_T .int a n (fun j => .int (f j)) A s s.heap) (hS : va_S A s.heap H locs) : PreS s H (va_Pc [.ref a, .int i] (RP a n f)) [.ref a, .int i] :=
  ⟨RP_blind, fun U hU hW => ⟨rfl, by
    show va_T .int a n (fun j => .int (f j)) (fun _ => False) U U.heap
    rw [hU]
    exact ((hT.kept (fun q h1 h2 => hS.2.1 q h1 h2)).moved hW.alike).narrow (fun _ h => h.elim)⟩⟩
theorem sw_ne {x k : Int32} {lo hi : Int} (h : x.toInt < lo ∨ hi < x.toInt) (hk : lo ≤ k.toInt ∧ k.toInt ≤ hi) : ¬ x = k := fun e => by
  subst e
  omega
theorem arr_congr {n : Nat} {f g : Nat → Int32} (h : ∀ j, j < n → f j = g j) (cA : ClassId) : vp_cell cA (n, .inl f) = vp_cell cA (n, .inl g) := by
  show arrV cA n (fun j => .int (f j)) = arrV cA n (fun j => .int (g j))
  unfold arrV
  congr 1
  congr 1
  funext j
  show Value.int (f j.val) = Value.int (g j.val)
  rw [h j.val j.isLt]
theorem P_arr1 {D : va_G} {a n : Nat} {cA : ClassId} {f g : Nat → Int32} {H : Heap} (h : ∀ j, j < n → f j = g j) (hP : va_P D classes [(a, .inl (cA, n, .inl f))] H) : va_P D classes [(a, .inl (cA, n, .inl g))] H := by
  intro k q hk
  have h0 := hP 0 _ rfl
  match k, hk with
  | 0, hk =>
    cases hk
    show H[a]? = some (vp_cell cA (n, .inl g))
    rw [← arr_congr h]
    exact h0
theorem D_arr1 {A : Nat → Prop} {a n : Nat} {cA : ClassId} {f g : Nat → Int32} (hD : va_D A [(a, .inl (cA, n, .inl f))]) : va_D A [(a, .inl (cA, n, .inl g))] := hD.set (p := 0) (e := .inl (cA, n, .inl g)) rfl
section
variable {p : Program} {l : Launch} {e : Env} {R : Room} {s : State} {m : MethodId} {args : Array Value} {below : List Frame} {meth : Method} {c : Code} {H : Heap} {locs : List Loc} {cells slots : Nat} {Q : State → Prop} {pc : Nat} {ls : Array Slot} {rest : List Value}
theorem lv_eqi {x y : Int32} (h : x = y) (k : W p l e R s m args below meth c H locs cells slots Q (F0 m pc ls (.int y :: rest))) : W p l e R s m args below meth c H locs cells slots Q (F0 m pc ls (.int x :: rest)) := h ▸ k
end
end
section
theorem d_SJ_init_0 : decode b_SJ_init 0 = .ok (.aload_n 0, 1) := by decide +kernel
theorem d_SJ_init_1 : decode b_SJ_init 1 = .ok (.invokespecial 1, 3) := by decide +kernel
theorem d_SJ_init_4 : decode b_SJ_init 4 = .ok (.aload_n 0, 1) := by decide +kernel
theorem d_SJ_init_5 : decode b_SJ_init 5 = .ok (.new 7, 3) := by decide +kernel
theorem d_SJ_init_8 : decode b_SJ_init 8 = .ok (.dup, 1) := by decide +kernel
theorem d_SJ_init_9 : decode b_SJ_init 9 = .ok (.iload_n 1, 1) := by decide +kernel
theorem d_SJ_init_10 : decode b_SJ_init 10 = .ok (.iconst 3, 1) := by decide +kernel
theorem d_SJ_init_11 : decode b_SJ_init 11 = .ok (.iand, 1) := by decide +kernel
theorem d_SJ_init_12 : decode b_SJ_init 12 = .ok (.invokespecial 9, 3) := by decide +kernel
theorem d_SJ_init_15 : decode b_SJ_init 15 = .ok (.putfield 12, 3) := by decide +kernel
theorem d_SJ_init_18 : decode b_SJ_init 18 = .ok (.aload_n 0, 1) := by decide +kernel
theorem d_SJ_init_19 : decode b_SJ_init 19 = .ok (.new 18, 3) := by decide +kernel
theorem d_SJ_init_22 : decode b_SJ_init 22 = .ok (.dup, 1) := by decide +kernel
theorem d_SJ_init_23 : decode b_SJ_init 23 = .ok (.invokespecial 20, 3) := by decide +kernel
theorem d_SJ_init_26 : decode b_SJ_init 26 = .ok (.putfield 21, 3) := by decide +kernel
theorem d_SJ_init_29 : decode b_SJ_init 29 = .ok (.aload_n 0, 1) := by decide +kernel
theorem d_SJ_init_30 : decode b_SJ_init 30 = .ok (.new 25, 3) := by decide +kernel
theorem d_SJ_init_33 : decode b_SJ_init 33 = .ok (.dup, 1) := by decide +kernel
theorem d_SJ_init_34 : decode b_SJ_init 34 = .ok (.invokespecial 27, 3) := by decide +kernel
theorem d_SJ_init_37 : decode b_SJ_init 37 = .ok (.putfield 28, 3) := by decide +kernel
theorem d_SJ_init_40 : decode b_SJ_init 40 = .ok (.return_, 1) := by decide +kernel
theorem d_SJ_code_0 : decode b_SJ_code 0 = .ok (.aload_n 0, 1) := by decide +kernel
theorem d_SJ_code_1 : decode b_SJ_code 1 = .ok (.getfield 12, 3) := by decide +kernel
theorem d_SJ_code_4 : decode b_SJ_code 4 = .ok (.iload_n 1, 1) := by decide +kernel
theorem d_SJ_code_5 : decode b_SJ_code 5 = .ok (.iload_n 2, 1) := by decide +kernel
theorem d_SJ_code_6 : decode b_SJ_code 6 = .ok (.invokevirtual 32, 3) := by decide +kernel
theorem d_SJ_code_9 : decode b_SJ_code 9 = .ok (.ifCond .eq 15, 3) := by decide +kernel
theorem d_SJ_code_12 : decode b_SJ_code 12 = .ok (.aload_n 0, 1) := by decide +kernel
theorem d_SJ_code_13 : decode b_SJ_code 13 = .ok (.getfield 12, 3) := by decide +kernel
theorem d_SJ_code_16 : decode b_SJ_code 16 = .ok (.getfield 36, 3) := by decide +kernel
theorem d_SJ_code_19 : decode b_SJ_code 19 = .ok (.iconst 1, 1) := by decide +kernel
theorem d_SJ_code_20 : decode b_SJ_code 20 = .ok (.isub, 1) := by decide +kernel
theorem d_SJ_code_21 : decode b_SJ_code 21 = .ok (.goto 5, 3) := by decide +kernel
theorem d_SJ_code_24 : decode b_SJ_code 24 = .ok (.bipush (-3), 2) := by decide +kernel
theorem d_SJ_code_26 : decode b_SJ_code 26 = .ok (.ireturn, 1) := by decide +kernel
theorem d_SJ_clear_0 : decode b_SJ_clear 0 = .ok (.aload_n 0, 1) := by decide +kernel
theorem d_SJ_clear_1 : decode b_SJ_clear 1 = .ok (.getfield 12, 3) := by decide +kernel
theorem d_SJ_clear_4 : decode b_SJ_clear 4 = .ok (.getfield 36, 3) := by decide +kernel
theorem d_SJ_clear_7 : decode b_SJ_clear 7 = .ok (.istore_n 1, 1) := by decide +kernel
theorem d_SJ_clear_8 : decode b_SJ_clear 8 = .ok (.aload_n 0, 1) := by decide +kernel
theorem d_SJ_clear_9 : decode b_SJ_clear 9 = .ok (.getfield 12, 3) := by decide +kernel
theorem d_SJ_clear_12 : decode b_SJ_clear 12 = .ok (.iconst 0, 1) := by decide +kernel
theorem d_SJ_clear_13 : decode b_SJ_clear 13 = .ok (.invokevirtual 40, 3) := by decide +kernel
theorem d_SJ_clear_16 : decode b_SJ_clear 16 = .ok (.iload_n 1, 1) := by decide +kernel
theorem d_SJ_clear_17 : decode b_SJ_clear 17 = .ok (.ireturn, 1) := by decide +kernel
theorem d_SJ_drop_0 : decode b_SJ_drop 0 = .ok (.aload_n 0, 1) := by decide +kernel
theorem d_SJ_drop_1 : decode b_SJ_drop 1 = .ok (.getfield 12, 3) := by decide +kernel
theorem d_SJ_drop_4 : decode b_SJ_drop 4 = .ok (.getfield 36, 3) := by decide +kernel
theorem d_SJ_drop_7 : decode b_SJ_drop 7 = .ok (.ifCond .ne 6, 3) := by decide +kernel
theorem d_SJ_drop_10 : decode b_SJ_drop 10 = .ok (.bipush (-2), 2) := by decide +kernel
theorem d_SJ_drop_12 : decode b_SJ_drop 12 = .ok (.ireturn, 1) := by decide +kernel
theorem d_SJ_drop_13 : decode b_SJ_drop 13 = .ok (.aload_n 0, 1) := by decide +kernel
theorem d_SJ_drop_14 : decode b_SJ_drop 14 = .ok (.getfield 12, 3) := by decide +kernel
theorem d_SJ_drop_17 : decode b_SJ_drop 17 = .ok (.aload_n 0, 1) := by decide +kernel
theorem d_SJ_drop_18 : decode b_SJ_drop 18 = .ok (.getfield 12, 3) := by decide +kernel
theorem d_SJ_drop_21 : decode b_SJ_drop 21 = .ok (.getfield 36, 3) := by decide +kernel
theorem d_SJ_drop_24 : decode b_SJ_drop 24 = .ok (.iconst 1, 1) := by decide +kernel
theorem d_SJ_drop_25 : decode b_SJ_drop 25 = .ok (.isub, 1) := by decide +kernel
theorem d_SJ_drop_26 : decode b_SJ_drop 26 = .ok (.invokevirtual 40, 3) := by decide +kernel
theorem d_SJ_drop_29 : decode b_SJ_drop 29 = .ok (.aload_n 0, 1) := by decide +kernel
theorem d_SJ_drop_30 : decode b_SJ_drop 30 = .ok (.getfield 12, 3) := by decide +kernel
theorem d_SJ_drop_33 : decode b_SJ_drop 33 = .ok (.getfield 36, 3) := by decide +kernel
theorem d_SJ_drop_36 : decode b_SJ_drop 36 = .ok (.ireturn, 1) := by decide +kernel
theorem d_SJ_check_0 : decode b_SJ_check 0 = .ok (.aload_n 0, 1) := by decide +kernel
theorem d_SJ_check_1 : decode b_SJ_check 1 = .ok (.getfield 12, 3) := by decide +kernel
theorem d_SJ_check_4 : decode b_SJ_check 4 = .ok (.getfield 36, 3) := by decide +kernel
theorem d_SJ_check_7 : decode b_SJ_check 7 = .ok (.ifCond .ne 6, 3) := by decide +kernel
theorem d_SJ_check_10 : decode b_SJ_check 10 = .ok (.bipush 64, 2) := by decide +kernel
theorem d_SJ_check_12 : decode b_SJ_check 12 = .ok (.ireturn, 1) := by decide +kernel
theorem d_SJ_check_13 : decode b_SJ_check 13 = .ok (.aload_n 0, 1) := by decide +kernel
theorem d_SJ_check_14 : decode b_SJ_check 14 = .ok (.getfield 21, 3) := by decide +kernel
theorem d_SJ_check_17 : decode b_SJ_check 17 = .ok (.aload_n 0, 1) := by decide +kernel
theorem d_SJ_check_18 : decode b_SJ_check 18 = .ok (.getfield 12, 3) := by decide +kernel
theorem d_SJ_check_21 : decode b_SJ_check 21 = .ok (.invokevirtual 43, 3) := by decide +kernel
theorem d_SJ_check_24 : decode b_SJ_check 24 = .ok (.aload_n 0, 1) := by decide +kernel
theorem d_SJ_check_25 : decode b_SJ_check 25 = .ok (.getfield 21, 3) := by decide +kernel
theorem d_SJ_check_28 : decode b_SJ_check 28 = .ok (.aload_n 0, 1) := by decide +kernel
theorem d_SJ_check_29 : decode b_SJ_check 29 = .ok (.getfield 12, 3) := by decide +kernel
theorem d_SJ_check_32 : decode b_SJ_check 32 = .ok (.invokevirtual 47, 3) := by decide +kernel
theorem d_SJ_check_35 : decode b_SJ_check 35 = .ok (.ireturn, 1) := by decide +kernel
theorem d_SJ_heights_0 : decode b_SJ_heights 0 = .ok (.aload_n 0, 1) := by decide +kernel
theorem d_SJ_heights_1 : decode b_SJ_heights 1 = .ok (.getfield 12, 3) := by decide +kernel
theorem d_SJ_heights_4 : decode b_SJ_heights 4 = .ok (.iload_n 1, 1) := by decide +kernel
theorem d_SJ_heights_5 : decode b_SJ_heights 5 = .ok (.invokevirtual 51, 3) := by decide +kernel
theorem d_SJ_heights_8 : decode b_SJ_heights 8 = .ok (.ifCond .ne 5, 3) := by decide +kernel
theorem d_SJ_heights_11 : decode b_SJ_heights 11 = .ok (.iconst (-1), 1) := by decide +kernel
theorem d_SJ_heights_12 : decode b_SJ_heights 12 = .ok (.ireturn, 1) := by decide +kernel
theorem d_SJ_heights_13 : decode b_SJ_heights 13 = .ok (.aload_n 0, 1) := by decide +kernel
theorem d_SJ_heights_14 : decode b_SJ_heights 14 = .ok (.getfield 21, 3) := by decide +kernel
theorem d_SJ_heights_17 : decode b_SJ_heights 17 = .ok (.aload_n 0, 1) := by decide +kernel
theorem d_SJ_heights_18 : decode b_SJ_heights 18 = .ok (.getfield 12, 3) := by decide +kernel
theorem d_SJ_heights_21 : decode b_SJ_heights 21 = .ok (.invokevirtual 43, 3) := by decide +kernel
theorem d_SJ_heights_24 : decode b_SJ_heights 24 = .ok (.aload_n 0, 1) := by decide +kernel
theorem d_SJ_heights_25 : decode b_SJ_heights 25 = .ok (.getfield 21, 3) := by decide +kernel
theorem d_SJ_heights_28 : decode b_SJ_heights 28 = .ok (.getfield 55, 3) := by decide +kernel
theorem d_SJ_heights_31 : decode b_SJ_heights 31 = .ok (.iload_n 1, 1) := by decide +kernel
theorem d_SJ_heights_32 : decode b_SJ_heights 32 = .ok (.invokestatic 59, 3) := by decide +kernel
theorem d_SJ_heights_35 : decode b_SJ_heights 35 = .ok (.ireturn, 1) := by decide +kernel
theorem d_SJ_call_0 : decode b_SJ_call 0 = .ok (.aload_n 0, 1) := by decide +kernel
theorem d_SJ_call_1 : decode b_SJ_call 1 = .ok (.invokevirtual 63, 3) := by decide +kernel
theorem d_SJ_call_4 : decode b_SJ_call 4 = .ok (.bipush (-2), 2) := by decide +kernel
theorem d_SJ_call_6 : decode b_SJ_call 6 = .ok (.if_icmp .eq 6, 3) := by decide +kernel
theorem d_SJ_call_9 : decode b_SJ_call 9 = .ok (.bipush (-2), 2) := by decide +kernel
theorem d_SJ_call_11 : decode b_SJ_call 11 = .ok (.ireturn, 1) := by decide +kernel
theorem d_SJ_call_12 : decode b_SJ_call 12 = .ok (.aload_n 0, 1) := by decide +kernel
theorem d_SJ_call_13 : decode b_SJ_call 13 = .ok (.getfield 28, 3) := by decide +kernel
theorem d_SJ_call_16 : decode b_SJ_call 16 = .ok (.aload_n 0, 1) := by decide +kernel
theorem d_SJ_call_17 : decode b_SJ_call 17 = .ok (.getfield 12, 3) := by decide +kernel
theorem d_SJ_call_20 : decode b_SJ_call 20 = .ok (.iload_n 1, 1) := by decide +kernel
theorem d_SJ_call_21 : decode b_SJ_call 21 = .ok (.iload_n 2, 1) := by decide +kernel
theorem d_SJ_call_22 : decode b_SJ_call 22 = .ok (.iload_n 3, 1) := by decide +kernel
theorem d_SJ_call_23 : decode b_SJ_call 23 = .ok (.invokevirtual 67, 3) := by decide +kernel
theorem d_SJ_call_26 : decode b_SJ_call 26 = .ok (.ireturn, 1) := by decide +kernel
theorem d_SJ_result_0 : decode b_SJ_result 0 = .ok (.aload_n 0, 1) := by decide +kernel
theorem d_SJ_result_1 : decode b_SJ_result 1 = .ok (.getfield 28, 3) := by decide +kernel
theorem d_SJ_result_4 : decode b_SJ_result 4 = .ok (.getfield 71, 3) := by decide +kernel
theorem d_SJ_result_7 : decode b_SJ_result 7 = .ok (.ireturn, 1) := by decide +kernel
theorem d_SJ_steps_0 : decode b_SJ_steps 0 = .ok (.aload_n 0, 1) := by decide +kernel
theorem d_SJ_steps_1 : decode b_SJ_steps 1 = .ok (.getfield 28, 3) := by decide +kernel
theorem d_SJ_steps_4 : decode b_SJ_steps 4 = .ok (.getfield 74, 3) := by decide +kernel
theorem d_SJ_steps_7 : decode b_SJ_steps 7 = .ok (.ireturn, 1) := by decide +kernel
theorem d_SJ_pairs_0 : decode b_SJ_pairs 0 = .ok (.aload_n 0, 1) := by decide +kernel
theorem d_SJ_pairs_1 : decode b_SJ_pairs 1 = .ok (.getfield 28, 3) := by decide +kernel
theorem d_SJ_pairs_4 : decode b_SJ_pairs 4 = .ok (.getfield 77, 3) := by decide +kernel
theorem d_SJ_pairs_7 : decode b_SJ_pairs 7 = .ok (.ireturn, 1) := by decide +kernel
theorem d_SJ_pair_0 : decode b_SJ_pair 0 = .ok (.iload_n 1, 1) := by decide +kernel
theorem d_SJ_pair_1 : decode b_SJ_pair 1 = .ok (.ifCond .lt 14, 3) := by decide +kernel
theorem d_SJ_pair_4 : decode b_SJ_pair 4 = .ok (.iload_n 1, 1) := by decide +kernel
theorem d_SJ_pair_5 : decode b_SJ_pair 5 = .ok (.aload_n 0, 1) := by decide +kernel
theorem d_SJ_pair_6 : decode b_SJ_pair 6 = .ok (.getfield 28, 3) := by decide +kernel
theorem d_SJ_pair_9 : decode b_SJ_pair 9 = .ok (.getfield 77, 3) := by decide +kernel
theorem d_SJ_pair_12 : decode b_SJ_pair 12 = .ok (.if_icmp .lt 7, 3) := by decide +kernel
theorem d_SJ_pair_15 : decode b_SJ_pair 15 = .ok (.ldc2_w 80, 3) := by decide +kernel
theorem d_SJ_pair_18 : decode b_SJ_pair 18 = .ok (.lreturn, 1) := by decide +kernel
theorem d_SJ_pair_19 : decode b_SJ_pair 19 = .ok (.iload_n 2, 1) := by decide +kernel
theorem d_SJ_pair_20 : decode b_SJ_pair 20 = .ok (.lookupswitch 54 #[(0, 28), (1, 41)], 28) := by decide +kernel
theorem d_SJ_pair_48 : decode b_SJ_pair 48 = .ok (.aload_n 0, 1) := by decide +kernel
theorem d_SJ_pair_49 : decode b_SJ_pair 49 = .ok (.getfield 28, 3) := by decide +kernel
theorem d_SJ_pair_52 : decode b_SJ_pair 52 = .ok (.getfield 82, 3) := by decide +kernel
theorem d_SJ_pair_55 : decode b_SJ_pair 55 = .ok (.iload_n 1, 1) := by decide +kernel
theorem d_SJ_pair_56 : decode b_SJ_pair 56 = .ok (.invokestatic 59, 3) := by decide +kernel
theorem d_SJ_pair_59 : decode b_SJ_pair 59 = .ok (.i2l, 1) := by decide +kernel
theorem d_SJ_pair_60 : decode b_SJ_pair 60 = .ok (.lreturn, 1) := by decide +kernel
theorem d_SJ_pair_61 : decode b_SJ_pair 61 = .ok (.aload_n 0, 1) := by decide +kernel
theorem d_SJ_pair_62 : decode b_SJ_pair 62 = .ok (.getfield 28, 3) := by decide +kernel
theorem d_SJ_pair_65 : decode b_SJ_pair 65 = .ok (.getfield 85, 3) := by decide +kernel
theorem d_SJ_pair_68 : decode b_SJ_pair 68 = .ok (.iload_n 1, 1) := by decide +kernel
theorem d_SJ_pair_69 : decode b_SJ_pair 69 = .ok (.invokestatic 59, 3) := by decide +kernel
theorem d_SJ_pair_72 : decode b_SJ_pair 72 = .ok (.i2l, 1) := by decide +kernel
theorem d_SJ_pair_73 : decode b_SJ_pair 73 = .ok (.lreturn, 1) := by decide +kernel
theorem d_SJ_pair_74 : decode b_SJ_pair 74 = .ok (.ldc2_w 80, 3) := by decide +kernel
theorem d_SJ_pair_77 : decode b_SJ_pair 77 = .ok (.lreturn, 1) := by decide +kernel
theorem d_SJ_read_0 : decode b_SJ_read 0 = .ok (.iload_n 1, 1) := by decide +kernel
theorem d_SJ_read_1 : decode b_SJ_read 1 = .ok (.ifCond .lt 15, 3) := by decide +kernel
theorem d_SJ_read_4 : decode b_SJ_read 4 = .ok (.iload_n 1, 1) := by decide +kernel
theorem d_SJ_read_5 : decode b_SJ_read 5 = .ok (.aload_n 0, 1) := by decide +kernel
theorem d_SJ_read_6 : decode b_SJ_read 6 = .ok (.arraylength, 1) := by decide +kernel
theorem d_SJ_read_7 : decode b_SJ_read 7 = .ok (.if_icmp .ge 9, 3) := by decide +kernel
theorem d_SJ_read_10 : decode b_SJ_read 10 = .ok (.aload_n 0, 1) := by decide +kernel
theorem d_SJ_read_11 : decode b_SJ_read 11 = .ok (.iload_n 1, 1) := by decide +kernel
theorem d_SJ_read_12 : decode b_SJ_read 12 = .ok (.iaload, 1) := by decide +kernel
theorem d_SJ_read_13 : decode b_SJ_read 13 = .ok (.goto 4, 3) := by decide +kernel
theorem d_SJ_read_16 : decode b_SJ_read 16 = .ok (.iconst 0, 1) := by decide +kernel
theorem d_SJ_read_17 : decode b_SJ_read 17 = .ok (.ireturn, 1) := by decide +kernel
theorem d_SJ_write_0 : decode b_SJ_write 0 = .ok (.iload_n 1, 1) := by decide +kernel
theorem d_SJ_write_1 : decode b_SJ_write 1 = .ok (.ifCond .lt 13, 3) := by decide +kernel
theorem d_SJ_write_4 : decode b_SJ_write 4 = .ok (.iload_n 1, 1) := by decide +kernel
theorem d_SJ_write_5 : decode b_SJ_write 5 = .ok (.aload_n 0, 1) := by decide +kernel
theorem d_SJ_write_6 : decode b_SJ_write 6 = .ok (.arraylength, 1) := by decide +kernel
theorem d_SJ_write_7 : decode b_SJ_write 7 = .ok (.if_icmp .ge 7, 3) := by decide +kernel
theorem d_SJ_write_10 : decode b_SJ_write 10 = .ok (.aload_n 0, 1) := by decide +kernel
theorem d_SJ_write_11 : decode b_SJ_write 11 = .ok (.iload_n 1, 1) := by decide +kernel
theorem d_SJ_write_12 : decode b_SJ_write 12 = .ok (.iload_n 2, 1) := by decide +kernel
theorem d_SJ_write_13 : decode b_SJ_write 13 = .ok (.iastore, 1) := by decide +kernel
theorem d_SJ_write_14 : decode b_SJ_write 14 = .ok (.return_, 1) := by decide +kernel
theorem d_Machine_init_0 : decode b_Machine_init 0 = .ok (.aload_n 0, 1) := by decide +kernel
theorem d_Machine_init_1 : decode b_Machine_init 1 = .ok (.invokespecial 3, 3) := by decide +kernel
theorem d_Machine_init_4 : decode b_Machine_init 4 = .ok (.aload_n 0, 1) := by decide +kernel
theorem d_Machine_init_5 : decode b_Machine_init 5 = .ok (.bipush 20, 2) := by decide +kernel
theorem d_Machine_init_7 : decode b_Machine_init 7 = .ok (.newarray .int, 2) := by decide +kernel
theorem d_Machine_init_9 : decode b_Machine_init 9 = .ok (.putfield 9, 3) := by decide +kernel
theorem d_Machine_init_12 : decode b_Machine_init 12 = .ok (.aload_n 0, 1) := by decide +kernel
theorem d_Machine_init_13 : decode b_Machine_init 13 = .ok (.bipush 20, 2) := by decide +kernel
theorem d_Machine_init_15 : decode b_Machine_init 15 = .ok (.newarray .int, 2) := by decide +kernel
theorem d_Machine_init_17 : decode b_Machine_init 17 = .ok (.putfield 15, 3) := by decide +kernel
theorem d_Machine_init_20 : decode b_Machine_init 20 = .ok (.aload_n 0, 1) := by decide +kernel
theorem d_Machine_init_21 : decode b_Machine_init 21 = .ok (.iconst 3, 1) := by decide +kernel
theorem d_Machine_init_22 : decode b_Machine_init 22 = .ok (.newarray .int, 2) := by decide +kernel
theorem d_Machine_init_24 : decode b_Machine_init 24 = .ok (.putfield 18, 3) := by decide +kernel
theorem d_Machine_init_27 : decode b_Machine_init 27 = .ok (.aload_n 0, 1) := by decide +kernel
theorem d_Machine_init_28 : decode b_Machine_init 28 = .ok (.iconst 4, 1) := by decide +kernel
theorem d_Machine_init_29 : decode b_Machine_init 29 = .ok (.newarray .int, 2) := by decide +kernel
theorem d_Machine_init_31 : decode b_Machine_init 31 = .ok (.putfield 21, 3) := by decide +kernel
theorem d_Machine_init_34 : decode b_Machine_init 34 = .ok (.aload_n 0, 1) := by decide +kernel
theorem d_Machine_init_35 : decode b_Machine_init 35 = .ok (.bipush 8, 2) := by decide +kernel
theorem d_Machine_init_37 : decode b_Machine_init 37 = .ok (.newarray .int, 2) := by decide +kernel
theorem d_Machine_init_39 : decode b_Machine_init 39 = .ok (.putfield 24, 3) := by decide +kernel
theorem d_Machine_init_42 : decode b_Machine_init 42 = .ok (.return_, 1) := by decide +kernel
theorem d_Machine_run_0 : decode b_Machine_run 0 = .ok (.aload_n 0, 1) := by decide +kernel
theorem d_Machine_run_1 : decode b_Machine_run 1 = .ok (.iload_n 2, 1) := by decide +kernel
theorem d_Machine_run_2 : decode b_Machine_run 2 = .ok (.iload_n 3, 1) := by decide +kernel
theorem d_Machine_run_3 : decode b_Machine_run 3 = .ok (.iload 4, 2) := by decide +kernel
theorem d_Machine_run_5 : decode b_Machine_run 5 = .ok (.invokevirtual 27, 3) := by decide +kernel
theorem d_Machine_run_8 : decode b_Machine_run 8 = .ok (.iconst 3, 1) := by decide +kernel
theorem d_Machine_run_9 : decode b_Machine_run 9 = .ok (.istore 5, 2) := by decide +kernel
theorem d_Machine_run_11 : decode b_Machine_run 11 = .ok (.iconst 0, 1) := by decide +kernel
theorem d_Machine_run_12 : decode b_Machine_run 12 = .ok (.istore 6, 2) := by decide +kernel
theorem d_Machine_run_14 : decode b_Machine_run 14 = .ok (.iload 6, 2) := by decide +kernel
theorem d_Machine_run_16 : decode b_Machine_run 16 = .ok (.sipush 300, 3) := by decide +kernel
theorem d_Machine_run_19 : decode b_Machine_run 19 = .ok (.if_icmp .ge 51, 3) := by decide +kernel
theorem d_Machine_run_22 : decode b_Machine_run 22 = .ok (.iload 5, 2) := by decide +kernel
theorem d_Machine_run_24 : decode b_Machine_run 24 = .ok (.iconst 3, 1) := by decide +kernel
theorem d_Machine_run_25 : decode b_Machine_run 25 = .ok (.if_icmp .ne 45, 3) := by decide +kernel
theorem d_Machine_run_28 : decode b_Machine_run 28 = .ok (.aload_n 0, 1) := by decide +kernel
theorem d_Machine_run_29 : decode b_Machine_run 29 = .ok (.dup, 1) := by decide +kernel
theorem d_Machine_run_30 : decode b_Machine_run 30 = .ok (.getfield 31, 3) := by decide +kernel
theorem d_Machine_run_33 : decode b_Machine_run 33 = .ok (.iconst 1, 1) := by decide +kernel
theorem d_Machine_run_34 : decode b_Machine_run 34 = .ok (.iadd, 1) := by decide +kernel
theorem d_Machine_run_35 : decode b_Machine_run 35 = .ok (.putfield 31, 3) := by decide +kernel
theorem d_Machine_run_38 : decode b_Machine_run 38 = .ok (.aload_n 0, 1) := by decide +kernel
theorem d_Machine_run_39 : decode b_Machine_run 39 = .ok (.aload_n 1, 1) := by decide +kernel
theorem d_Machine_run_40 : decode b_Machine_run 40 = .ok (.aload_n 0, 1) := by decide +kernel
theorem d_Machine_run_41 : decode b_Machine_run 41 = .ok (.getfield 35, 3) := by decide +kernel
theorem d_Machine_run_44 : decode b_Machine_run 44 = .ok (.invokevirtual 38, 3) := by decide +kernel
theorem d_Machine_run_47 : decode b_Machine_run 47 = .ok (.aload_n 1, 1) := by decide +kernel
theorem d_Machine_run_48 : decode b_Machine_run 48 = .ok (.aload_n 0, 1) := by decide +kernel
theorem d_Machine_run_49 : decode b_Machine_run 49 = .ok (.getfield 35, 3) := by decide +kernel
theorem d_Machine_run_52 : decode b_Machine_run 52 = .ok (.invokevirtual 44, 3) := by decide +kernel
theorem d_Machine_run_55 : decode b_Machine_run 55 = .ok (.aload_n 1, 1) := by decide +kernel
theorem d_Machine_run_56 : decode b_Machine_run 56 = .ok (.getfield 47, 3) := by decide +kernel
theorem d_Machine_run_59 : decode b_Machine_run 59 = .ok (.invokevirtual 50, 3) := by decide +kernel
theorem d_Machine_run_62 : decode b_Machine_run 62 = .ok (.istore 5, 2) := by decide +kernel
theorem d_Machine_run_64 : decode b_Machine_run 64 = .ok (.iinc 6 1, 3) := by decide +kernel
theorem d_Machine_run_67 : decode b_Machine_run 67 = .ok (.goto (-53), 3) := by decide +kernel
theorem d_Machine_run_70 : decode b_Machine_run 70 = .ok (.iload 5, 2) := by decide +kernel
theorem d_Machine_run_72 : decode b_Machine_run 72 = .ok (.iconst 3, 1) := by decide +kernel
theorem d_Machine_run_73 : decode b_Machine_run 73 = .ok (.if_icmp .eq 9, 3) := by decide +kernel
theorem d_Machine_run_76 : decode b_Machine_run 76 = .ok (.iload 5, 2) := by decide +kernel
theorem d_Machine_run_78 : decode b_Machine_run 78 = .ok (.iconst 2, 1) := by decide +kernel
theorem d_Machine_run_79 : decode b_Machine_run 79 = .ok (.if_icmp .ne 10, 3) := by decide +kernel
theorem d_Machine_run_82 : decode b_Machine_run 82 = .ok (.aload_n 0, 1) := by decide +kernel
theorem d_Machine_run_83 : decode b_Machine_run 83 = .ok (.iconst 0, 1) := by decide +kernel
theorem d_Machine_run_84 : decode b_Machine_run 84 = .ok (.putfield 54, 3) := by decide +kernel
theorem d_Machine_run_87 : decode b_Machine_run 87 = .ok (.iconst 2, 1) := by decide +kernel
theorem d_Machine_run_88 : decode b_Machine_run 88 = .ok (.ireturn, 1) := by decide +kernel
theorem d_Machine_run_89 : decode b_Machine_run 89 = .ok (.iload 5, 2) := by decide +kernel
theorem d_Machine_run_91 : decode b_Machine_run 91 = .ok (.ireturn, 1) := by decide +kernel
theorem d_Machine_begin_0 : decode b_Machine_begin 0 = .ok (.aload_n 0, 1) := by decide +kernel
theorem d_Machine_begin_1 : decode b_Machine_begin 1 = .ok (.getfield 18, 3) := by decide +kernel
theorem d_Machine_begin_4 : decode b_Machine_begin 4 = .ok (.iconst 0, 1) := by decide +kernel
theorem d_Machine_begin_5 : decode b_Machine_begin 5 = .ok (.iload_n 1, 1) := by decide +kernel
theorem d_Machine_begin_6 : decode b_Machine_begin 6 = .ok (.invokestatic 57, 3) := by decide +kernel
theorem d_Machine_begin_9 : decode b_Machine_begin 9 = .ok (.aload_n 0, 1) := by decide +kernel
theorem d_Machine_begin_10 : decode b_Machine_begin 10 = .ok (.getfield 18, 3) := by decide +kernel
theorem d_Machine_begin_13 : decode b_Machine_begin 13 = .ok (.iconst 1, 1) := by decide +kernel
theorem d_Machine_begin_14 : decode b_Machine_begin 14 = .ok (.iload_n 2, 1) := by decide +kernel
theorem d_Machine_begin_15 : decode b_Machine_begin 15 = .ok (.invokestatic 57, 3) := by decide +kernel
theorem d_Machine_begin_18 : decode b_Machine_begin 18 = .ok (.aload_n 0, 1) := by decide +kernel
theorem d_Machine_begin_19 : decode b_Machine_begin 19 = .ok (.getfield 18, 3) := by decide +kernel
theorem d_Machine_begin_22 : decode b_Machine_begin 22 = .ok (.iconst 2, 1) := by decide +kernel
theorem d_Machine_begin_23 : decode b_Machine_begin 23 = .ok (.iload_n 3, 1) := by decide +kernel
theorem d_Machine_begin_24 : decode b_Machine_begin 24 = .ok (.invokestatic 57, 3) := by decide +kernel
theorem d_Machine_begin_27 : decode b_Machine_begin 27 = .ok (.aload_n 0, 1) := by decide +kernel
theorem d_Machine_begin_28 : decode b_Machine_begin 28 = .ok (.getfield 21, 3) := by decide +kernel
theorem d_Machine_begin_31 : decode b_Machine_begin 31 = .ok (.iconst 0, 1) := by decide +kernel
theorem d_Machine_begin_32 : decode b_Machine_begin 32 = .ok (.invokestatic 61, 3) := by decide +kernel
theorem d_Machine_begin_35 : decode b_Machine_begin 35 = .ok (.aload_n 0, 1) := by decide +kernel
theorem d_Machine_begin_36 : decode b_Machine_begin 36 = .ok (.iconst 0, 1) := by decide +kernel
theorem d_Machine_begin_37 : decode b_Machine_begin 37 = .ok (.putfield 67, 3) := by decide +kernel
theorem d_Machine_begin_40 : decode b_Machine_begin 40 = .ok (.aload_n 0, 1) := by decide +kernel
theorem d_Machine_begin_41 : decode b_Machine_begin 41 = .ok (.iconst 0, 1) := by decide +kernel
theorem d_Machine_begin_42 : decode b_Machine_begin 42 = .ok (.putfield 35, 3) := by decide +kernel
theorem d_Machine_begin_45 : decode b_Machine_begin 45 = .ok (.aload_n 0, 1) := by decide +kernel
theorem d_Machine_begin_46 : decode b_Machine_begin 46 = .ok (.iconst 0, 1) := by decide +kernel
theorem d_Machine_begin_47 : decode b_Machine_begin 47 = .ok (.putfield 70, 3) := by decide +kernel
theorem d_Machine_begin_50 : decode b_Machine_begin 50 = .ok (.aload_n 0, 1) := by decide +kernel
theorem d_Machine_begin_51 : decode b_Machine_begin 51 = .ok (.iconst 0, 1) := by decide +kernel
theorem d_Machine_begin_52 : decode b_Machine_begin 52 = .ok (.putfield 31, 3) := by decide +kernel
theorem d_Machine_begin_55 : decode b_Machine_begin 55 = .ok (.aload_n 0, 1) := by decide +kernel
theorem d_Machine_begin_56 : decode b_Machine_begin 56 = .ok (.iconst 0, 1) := by decide +kernel
theorem d_Machine_begin_57 : decode b_Machine_begin 57 = .ok (.putfield 54, 3) := by decide +kernel
theorem d_Machine_begin_60 : decode b_Machine_begin 60 = .ok (.return_, 1) := by decide +kernel
theorem d_Machine_doOne_0 : decode b_Machine_doOne 0 = .ok (.aload_n 0, 1) := by decide +kernel
theorem d_Machine_doOne_1 : decode b_Machine_doOne 1 = .ok (.dup, 1) := by decide +kernel
theorem d_Machine_doOne_2 : decode b_Machine_doOne 2 = .ok (.getfield 35, 3) := by decide +kernel
theorem d_Machine_doOne_5 : decode b_Machine_doOne 5 = .ok (.iconst 1, 1) := by decide +kernel
theorem d_Machine_doOne_6 : decode b_Machine_doOne 6 = .ok (.iadd, 1) := by decide +kernel
theorem d_Machine_doOne_7 : decode b_Machine_doOne 7 = .ok (.putfield 35, 3) := by decide +kernel
theorem d_Machine_doOne_10 : decode b_Machine_doOne 10 = .ok (.iload_n 1, 1) := by decide +kernel
theorem d_Machine_doOne_11 : decode b_Machine_doOne 11 = .ok (.tableswitch 79 14 18 #[33, 40, 54, 59, 77], 33) := by decide +kernel
theorem d_Machine_doOne_44 : decode b_Machine_doOne 44 = .ok (.aload_n 0, 1) := by decide +kernel
theorem d_Machine_doOne_45 : decode b_Machine_doOne 45 = .ok (.iload_n 2, 1) := by decide +kernel
theorem d_Machine_doOne_46 : decode b_Machine_doOne 46 = .ok (.putfield 35, 3) := by decide +kernel
theorem d_Machine_doOne_49 : decode b_Machine_doOne 49 = .ok (.iconst 3, 1) := by decide +kernel
theorem d_Machine_doOne_50 : decode b_Machine_doOne 50 = .ok (.ireturn, 1) := by decide +kernel
theorem d_Machine_doOne_51 : decode b_Machine_doOne 51 = .ok (.aload_n 0, 1) := by decide +kernel
theorem d_Machine_doOne_52 : decode b_Machine_doOne 52 = .ok (.invokevirtual 73, 3) := by decide +kernel
theorem d_Machine_doOne_55 : decode b_Machine_doOne 55 = .ok (.ifCond .ne 8, 3) := by decide +kernel
theorem d_Machine_doOne_58 : decode b_Machine_doOne 58 = .ok (.aload_n 0, 1) := by decide +kernel
theorem d_Machine_doOne_59 : decode b_Machine_doOne 59 = .ok (.iload_n 2, 1) := by decide +kernel
theorem d_Machine_doOne_60 : decode b_Machine_doOne 60 = .ok (.putfield 35, 3) := by decide +kernel
theorem d_Machine_doOne_63 : decode b_Machine_doOne 63 = .ok (.iconst 3, 1) := by decide +kernel
theorem d_Machine_doOne_64 : decode b_Machine_doOne 64 = .ok (.ireturn, 1) := by decide +kernel
theorem d_Machine_doOne_65 : decode b_Machine_doOne 65 = .ok (.aload_n 0, 1) := by decide +kernel
theorem d_Machine_doOne_66 : decode b_Machine_doOne 66 = .ok (.invokevirtual 77, 3) := by decide +kernel
theorem d_Machine_doOne_69 : decode b_Machine_doOne 69 = .ok (.ireturn, 1) := by decide +kernel
theorem d_Machine_doOne_70 : decode b_Machine_doOne 70 = .ok (.aload_n 0, 1) := by decide +kernel
theorem d_Machine_doOne_71 : decode b_Machine_doOne 71 = .ok (.iload_n 3, 1) := by decide +kernel
theorem d_Machine_doOne_72 : decode b_Machine_doOne 72 = .ok (.ifCond .ne 7, 3) := by decide +kernel
theorem d_Machine_doOne_75 : decode b_Machine_doOne 75 = .ok (.iconst 0, 1) := by decide +kernel
theorem d_Machine_doOne_76 : decode b_Machine_doOne 76 = .ok (.goto 7, 3) := by decide +kernel
theorem d_Machine_doOne_79 : decode b_Machine_doOne 79 = .ok (.aload_n 0, 1) := by decide +kernel
theorem d_Machine_doOne_80 : decode b_Machine_doOne 80 = .ok (.invokevirtual 73, 3) := by decide +kernel
theorem d_Machine_doOne_83 : decode b_Machine_doOne 83 = .ok (.putfield 70, 3) := by decide +kernel
theorem d_Machine_doOne_86 : decode b_Machine_doOne 86 = .ok (.iconst 0, 1) := by decide +kernel
theorem d_Machine_doOne_87 : decode b_Machine_doOne 87 = .ok (.ireturn, 1) := by decide +kernel
theorem d_Machine_doOne_88 : decode b_Machine_doOne 88 = .ok (.iconst 1, 1) := by decide +kernel
theorem d_Machine_doOne_89 : decode b_Machine_doOne 89 = .ok (.ireturn, 1) := by decide +kernel
theorem d_Machine_doOne_90 : decode b_Machine_doOne 90 = .ok (.aload_n 0, 1) := by decide +kernel
theorem d_Machine_doOne_91 : decode b_Machine_doOne 91 = .ok (.iload_n 1, 1) := by decide +kernel
theorem d_Machine_doOne_92 : decode b_Machine_doOne 92 = .ok (.iload_n 2, 1) := by decide +kernel
theorem d_Machine_doOne_93 : decode b_Machine_doOne 93 = .ok (.invokevirtual 80, 3) := by decide +kernel
theorem d_Machine_doOne_96 : decode b_Machine_doOne 96 = .ok (.iconst 3, 1) := by decide +kernel
theorem d_Machine_doOne_97 : decode b_Machine_doOne 97 = .ok (.ireturn, 1) := by decide +kernel
theorem d_Machine_move_0 : decode b_Machine_move 0 = .ok (.iload_n 1, 1) := by decide +kernel
theorem d_Machine_move_1 : decode b_Machine_move 1 = .ok (.tableswitch 149 0 6 #[43, 51, 66, 81, 104, 122, 96], 43) := by decide +kernel
theorem d_Machine_move_44 : decode b_Machine_move 44 = .ok (.aload_n 0, 1) := by decide +kernel
theorem d_Machine_move_45 : decode b_Machine_move 45 = .ok (.iload_n 2, 1) := by decide +kernel
theorem d_Machine_move_46 : decode b_Machine_move 46 = .ok (.invokevirtual 84, 3) := by decide +kernel
theorem d_Machine_move_49 : decode b_Machine_move 49 = .ok (.goto 125, 3) := by decide +kernel
theorem d_Machine_move_52 : decode b_Machine_move 52 = .ok (.aload_n 0, 1) := by decide +kernel
theorem d_Machine_move_53 : decode b_Machine_move 53 = .ok (.aload_n 0, 1) := by decide +kernel
theorem d_Machine_move_54 : decode b_Machine_move 54 = .ok (.getfield 18, 3) := by decide +kernel
theorem d_Machine_move_57 : decode b_Machine_move 57 = .ok (.iload_n 2, 1) := by decide +kernel
theorem d_Machine_move_58 : decode b_Machine_move 58 = .ok (.invokestatic 88, 3) := by decide +kernel
theorem d_Machine_move_61 : decode b_Machine_move 61 = .ok (.invokevirtual 84, 3) := by decide +kernel
theorem d_Machine_move_64 : decode b_Machine_move 64 = .ok (.goto 110, 3) := by decide +kernel
theorem d_Machine_move_67 : decode b_Machine_move 67 = .ok (.aload_n 0, 1) := by decide +kernel
theorem d_Machine_move_68 : decode b_Machine_move 68 = .ok (.aload_n 0, 1) := by decide +kernel
theorem d_Machine_move_69 : decode b_Machine_move 69 = .ok (.getfield 21, 3) := by decide +kernel
theorem d_Machine_move_72 : decode b_Machine_move 72 = .ok (.iload_n 2, 1) := by decide +kernel
theorem d_Machine_move_73 : decode b_Machine_move 73 = .ok (.invokestatic 88, 3) := by decide +kernel
theorem d_Machine_move_76 : decode b_Machine_move 76 = .ok (.invokevirtual 84, 3) := by decide +kernel
theorem d_Machine_move_79 : decode b_Machine_move 79 = .ok (.goto 95, 3) := by decide +kernel
theorem d_Machine_move_82 : decode b_Machine_move 82 = .ok (.aload_n 0, 1) := by decide +kernel
theorem d_Machine_move_83 : decode b_Machine_move 83 = .ok (.getfield 21, 3) := by decide +kernel
theorem d_Machine_move_86 : decode b_Machine_move 86 = .ok (.iload_n 2, 1) := by decide +kernel
theorem d_Machine_move_87 : decode b_Machine_move 87 = .ok (.aload_n 0, 1) := by decide +kernel
theorem d_Machine_move_88 : decode b_Machine_move 88 = .ok (.invokevirtual 73, 3) := by decide +kernel
theorem d_Machine_move_91 : decode b_Machine_move 91 = .ok (.invokestatic 57, 3) := by decide +kernel
theorem d_Machine_move_94 : decode b_Machine_move 94 = .ok (.goto 80, 3) := by decide +kernel
theorem d_Machine_move_97 : decode b_Machine_move 97 = .ok (.aload_n 0, 1) := by decide +kernel
theorem d_Machine_move_98 : decode b_Machine_move 98 = .ok (.invokevirtual 73, 3) := by decide +kernel
theorem d_Machine_move_101 : decode b_Machine_move 101 = .ok (.pop, 1) := by decide +kernel
theorem d_Machine_move_102 : decode b_Machine_move 102 = .ok (.goto 72, 3) := by decide +kernel
theorem d_Machine_move_105 : decode b_Machine_move 105 = .ok (.aload_n 0, 1) := by decide +kernel
theorem d_Machine_move_106 : decode b_Machine_move 106 = .ok (.invokevirtual 73, 3) := by decide +kernel
theorem d_Machine_move_109 : decode b_Machine_move 109 = .ok (.istore_n 3, 1) := by decide +kernel
theorem d_Machine_move_110 : decode b_Machine_move 110 = .ok (.aload_n 0, 1) := by decide +kernel
theorem d_Machine_move_111 : decode b_Machine_move 111 = .ok (.iload_n 3, 1) := by decide +kernel
theorem d_Machine_move_112 : decode b_Machine_move 112 = .ok (.invokevirtual 84, 3) := by decide +kernel
theorem d_Machine_move_115 : decode b_Machine_move 115 = .ok (.aload_n 0, 1) := by decide +kernel
theorem d_Machine_move_116 : decode b_Machine_move 116 = .ok (.iload_n 3, 1) := by decide +kernel
theorem d_Machine_move_117 : decode b_Machine_move 117 = .ok (.invokevirtual 84, 3) := by decide +kernel
theorem d_Machine_move_120 : decode b_Machine_move 120 = .ok (.goto 54, 3) := by decide +kernel
theorem d_Machine_move_123 : decode b_Machine_move 123 = .ok (.aload_n 0, 1) := by decide +kernel
theorem d_Machine_move_124 : decode b_Machine_move 124 = .ok (.invokevirtual 73, 3) := by decide +kernel
theorem d_Machine_move_127 : decode b_Machine_move 127 = .ok (.istore 4, 2) := by decide +kernel
theorem d_Machine_move_129 : decode b_Machine_move 129 = .ok (.aload_n 0, 1) := by decide +kernel
theorem d_Machine_move_130 : decode b_Machine_move 130 = .ok (.invokevirtual 73, 3) := by decide +kernel
theorem d_Machine_move_133 : decode b_Machine_move 133 = .ok (.istore 5, 2) := by decide +kernel
theorem d_Machine_move_135 : decode b_Machine_move 135 = .ok (.aload_n 0, 1) := by decide +kernel
theorem d_Machine_move_136 : decode b_Machine_move 136 = .ok (.iload 4, 2) := by decide +kernel
theorem d_Machine_move_138 : decode b_Machine_move 138 = .ok (.invokevirtual 84, 3) := by decide +kernel
theorem d_Machine_move_141 : decode b_Machine_move 141 = .ok (.aload_n 0, 1) := by decide +kernel
theorem d_Machine_move_142 : decode b_Machine_move 142 = .ok (.iload 5, 2) := by decide +kernel
theorem d_Machine_move_144 : decode b_Machine_move 144 = .ok (.invokevirtual 84, 3) := by decide +kernel
theorem d_Machine_move_147 : decode b_Machine_move 147 = .ok (.goto 27, 3) := by decide +kernel
theorem d_Machine_move_150 : decode b_Machine_move 150 = .ok (.aload_n 0, 1) := by decide +kernel
theorem d_Machine_move_151 : decode b_Machine_move 151 = .ok (.invokevirtual 73, 3) := by decide +kernel
theorem d_Machine_move_154 : decode b_Machine_move 154 = .ok (.istore 6, 2) := by decide +kernel
theorem d_Machine_move_156 : decode b_Machine_move 156 = .ok (.aload_n 0, 1) := by decide +kernel
theorem d_Machine_move_157 : decode b_Machine_move 157 = .ok (.invokevirtual 73, 3) := by decide +kernel
theorem d_Machine_move_160 : decode b_Machine_move 160 = .ok (.istore 7, 2) := by decide +kernel
theorem d_Machine_move_162 : decode b_Machine_move 162 = .ok (.aload_n 0, 1) := by decide +kernel
theorem d_Machine_move_163 : decode b_Machine_move 163 = .ok (.iload_n 1, 1) := by decide +kernel
theorem d_Machine_move_164 : decode b_Machine_move 164 = .ok (.iload 7, 2) := by decide +kernel
theorem d_Machine_move_166 : decode b_Machine_move 166 = .ok (.iload 6, 2) := by decide +kernel
theorem d_Machine_move_168 : decode b_Machine_move 168 = .ok (.invokestatic 92, 3) := by decide +kernel
theorem d_Machine_move_171 : decode b_Machine_move 171 = .ok (.invokevirtual 84, 3) := by decide +kernel
theorem d_Machine_move_174 : decode b_Machine_move 174 = .ok (.return_, 1) := by decide +kernel
theorem d_Machine_combine_0 : decode b_Machine_combine 0 = .ok (.iload_n 0, 1) := by decide +kernel
theorem d_Machine_combine_1 : decode b_Machine_combine 1 = .ok (.tableswitch 86 7 12 #[39, 43, 47, 51, 63, 75], 39) := by decide +kernel
theorem d_Machine_combine_40 : decode b_Machine_combine 40 = .ok (.iload_n 1, 1) := by decide +kernel
theorem d_Machine_combine_41 : decode b_Machine_combine 41 = .ok (.iload_n 2, 1) := by decide +kernel
theorem d_Machine_combine_42 : decode b_Machine_combine 42 = .ok (.iadd, 1) := by decide +kernel
theorem d_Machine_combine_43 : decode b_Machine_combine 43 = .ok (.ireturn, 1) := by decide +kernel
theorem d_Machine_combine_44 : decode b_Machine_combine 44 = .ok (.iload_n 1, 1) := by decide +kernel
theorem d_Machine_combine_45 : decode b_Machine_combine 45 = .ok (.iload_n 2, 1) := by decide +kernel
theorem d_Machine_combine_46 : decode b_Machine_combine 46 = .ok (.isub, 1) := by decide +kernel
theorem d_Machine_combine_47 : decode b_Machine_combine 47 = .ok (.ireturn, 1) := by decide +kernel
theorem d_Machine_combine_48 : decode b_Machine_combine 48 = .ok (.iload_n 1, 1) := by decide +kernel
theorem d_Machine_combine_49 : decode b_Machine_combine 49 = .ok (.iload_n 2, 1) := by decide +kernel
theorem d_Machine_combine_50 : decode b_Machine_combine 50 = .ok (.imul, 1) := by decide +kernel
theorem d_Machine_combine_51 : decode b_Machine_combine 51 = .ok (.ireturn, 1) := by decide +kernel
theorem d_Machine_combine_52 : decode b_Machine_combine 52 = .ok (.iload_n 2, 1) := by decide +kernel
theorem d_Machine_combine_53 : decode b_Machine_combine 53 = .ok (.ifCond .ne 7, 3) := by decide +kernel
theorem d_Machine_combine_56 : decode b_Machine_combine 56 = .ok (.iconst 0, 1) := by decide +kernel
theorem d_Machine_combine_57 : decode b_Machine_combine 57 = .ok (.goto 6, 3) := by decide +kernel
theorem d_Machine_combine_60 : decode b_Machine_combine 60 = .ok (.iload_n 1, 1) := by decide +kernel
theorem d_Machine_combine_61 : decode b_Machine_combine 61 = .ok (.iload_n 2, 1) := by decide +kernel
theorem d_Machine_combine_62 : decode b_Machine_combine 62 = .ok (.idiv, 1) := by decide +kernel
theorem d_Machine_combine_63 : decode b_Machine_combine 63 = .ok (.ireturn, 1) := by decide +kernel
theorem d_Machine_combine_64 : decode b_Machine_combine 64 = .ok (.iload_n 2, 1) := by decide +kernel
theorem d_Machine_combine_65 : decode b_Machine_combine 65 = .ok (.ifCond .ne 7, 3) := by decide +kernel
theorem d_Machine_combine_68 : decode b_Machine_combine 68 = .ok (.iconst 0, 1) := by decide +kernel
theorem d_Machine_combine_69 : decode b_Machine_combine 69 = .ok (.goto 6, 3) := by decide +kernel
theorem d_Machine_combine_72 : decode b_Machine_combine 72 = .ok (.iload_n 1, 1) := by decide +kernel
theorem d_Machine_combine_73 : decode b_Machine_combine 73 = .ok (.iload_n 2, 1) := by decide +kernel
theorem d_Machine_combine_74 : decode b_Machine_combine 74 = .ok (.irem, 1) := by decide +kernel
theorem d_Machine_combine_75 : decode b_Machine_combine 75 = .ok (.ireturn, 1) := by decide +kernel
theorem d_Machine_combine_76 : decode b_Machine_combine 76 = .ok (.iload_n 1, 1) := by decide +kernel
theorem d_Machine_combine_77 : decode b_Machine_combine 77 = .ok (.iload_n 2, 1) := by decide +kernel
theorem d_Machine_combine_78 : decode b_Machine_combine 78 = .ok (.if_icmp .ge 7, 3) := by decide +kernel
theorem d_Machine_combine_81 : decode b_Machine_combine 81 = .ok (.iconst 1, 1) := by decide +kernel
theorem d_Machine_combine_82 : decode b_Machine_combine 82 = .ok (.goto 4, 3) := by decide +kernel
theorem d_Machine_combine_85 : decode b_Machine_combine 85 = .ok (.iconst 0, 1) := by decide +kernel
theorem d_Machine_combine_86 : decode b_Machine_combine 86 = .ok (.ireturn, 1) := by decide +kernel
theorem d_Machine_combine_87 : decode b_Machine_combine 87 = .ok (.iload_n 1, 1) := by decide +kernel
theorem d_Machine_combine_88 : decode b_Machine_combine 88 = .ok (.iload_n 2, 1) := by decide +kernel
theorem d_Machine_combine_89 : decode b_Machine_combine 89 = .ok (.if_icmp .ne 7, 3) := by decide +kernel
theorem d_Machine_combine_92 : decode b_Machine_combine 92 = .ok (.iconst 1, 1) := by decide +kernel
theorem d_Machine_combine_93 : decode b_Machine_combine 93 = .ok (.goto 4, 3) := by decide +kernel
theorem d_Machine_combine_96 : decode b_Machine_combine 96 = .ok (.iconst 0, 1) := by decide +kernel
theorem d_Machine_combine_97 : decode b_Machine_combine 97 = .ok (.ireturn, 1) := by decide +kernel
theorem d_Machine_emit_0 : decode b_Machine_emit 0 = .ok (.aload_n 0, 1) := by decide +kernel
theorem d_Machine_emit_1 : decode b_Machine_emit 1 = .ok (.getfield 54, 3) := by decide +kernel
theorem d_Machine_emit_4 : decode b_Machine_emit 4 = .ok (.bipush 20, 2) := by decide +kernel
theorem d_Machine_emit_6 : decode b_Machine_emit 6 = .ok (.if_icmp .lt 5, 3) := by decide +kernel
theorem d_Machine_emit_9 : decode b_Machine_emit 9 = .ok (.iconst 2, 1) := by decide +kernel
theorem d_Machine_emit_10 : decode b_Machine_emit 10 = .ok (.ireturn, 1) := by decide +kernel
theorem d_Machine_emit_11 : decode b_Machine_emit 11 = .ok (.aload_n 0, 1) := by decide +kernel
theorem d_Machine_emit_12 : decode b_Machine_emit 12 = .ok (.getfield 15, 3) := by decide +kernel
theorem d_Machine_emit_15 : decode b_Machine_emit 15 = .ok (.aload_n 0, 1) := by decide +kernel
theorem d_Machine_emit_16 : decode b_Machine_emit 16 = .ok (.getfield 54, 3) := by decide +kernel
theorem d_Machine_emit_19 : decode b_Machine_emit 19 = .ok (.aload_n 0, 1) := by decide +kernel
theorem d_Machine_emit_20 : decode b_Machine_emit 20 = .ok (.invokevirtual 73, 3) := by decide +kernel
theorem d_Machine_emit_23 : decode b_Machine_emit 23 = .ok (.invokestatic 57, 3) := by decide +kernel
theorem d_Machine_emit_26 : decode b_Machine_emit 26 = .ok (.aload_n 0, 1) := by decide +kernel
theorem d_Machine_emit_27 : decode b_Machine_emit 27 = .ok (.getfield 9, 3) := by decide +kernel
theorem d_Machine_emit_30 : decode b_Machine_emit 30 = .ok (.aload_n 0, 1) := by decide +kernel
theorem d_Machine_emit_31 : decode b_Machine_emit 31 = .ok (.getfield 54, 3) := by decide +kernel
theorem d_Machine_emit_34 : decode b_Machine_emit 34 = .ok (.aload_n 0, 1) := by decide +kernel
theorem d_Machine_emit_35 : decode b_Machine_emit 35 = .ok (.invokevirtual 73, 3) := by decide +kernel
theorem d_Machine_emit_38 : decode b_Machine_emit 38 = .ok (.invokestatic 57, 3) := by decide +kernel
theorem d_Machine_emit_41 : decode b_Machine_emit 41 = .ok (.aload_n 0, 1) := by decide +kernel
theorem d_Machine_emit_42 : decode b_Machine_emit 42 = .ok (.dup, 1) := by decide +kernel
theorem d_Machine_emit_43 : decode b_Machine_emit 43 = .ok (.getfield 54, 3) := by decide +kernel
theorem d_Machine_emit_46 : decode b_Machine_emit 46 = .ok (.iconst 1, 1) := by decide +kernel
theorem d_Machine_emit_47 : decode b_Machine_emit 47 = .ok (.iadd, 1) := by decide +kernel
theorem d_Machine_emit_48 : decode b_Machine_emit 48 = .ok (.putfield 54, 3) := by decide +kernel
theorem d_Machine_emit_51 : decode b_Machine_emit 51 = .ok (.iconst 3, 1) := by decide +kernel
theorem d_Machine_emit_52 : decode b_Machine_emit 52 = .ok (.ireturn, 1) := by decide +kernel
theorem d_Machine_push_0 : decode b_Machine_push 0 = .ok (.aload_n 0, 1) := by decide +kernel
theorem d_Machine_push_1 : decode b_Machine_push 1 = .ok (.getfield 24, 3) := by decide +kernel
theorem d_Machine_push_4 : decode b_Machine_push 4 = .ok (.aload_n 0, 1) := by decide +kernel
theorem d_Machine_push_5 : decode b_Machine_push 5 = .ok (.getfield 67, 3) := by decide +kernel
theorem d_Machine_push_8 : decode b_Machine_push 8 = .ok (.iload_n 1, 1) := by decide +kernel
theorem d_Machine_push_9 : decode b_Machine_push 9 = .ok (.invokestatic 57, 3) := by decide +kernel
theorem d_Machine_push_12 : decode b_Machine_push 12 = .ok (.aload_n 0, 1) := by decide +kernel
theorem d_Machine_push_13 : decode b_Machine_push 13 = .ok (.dup, 1) := by decide +kernel
theorem d_Machine_push_14 : decode b_Machine_push 14 = .ok (.getfield 67, 3) := by decide +kernel
theorem d_Machine_push_17 : decode b_Machine_push 17 = .ok (.iconst 1, 1) := by decide +kernel
theorem d_Machine_push_18 : decode b_Machine_push 18 = .ok (.iadd, 1) := by decide +kernel
theorem d_Machine_push_19 : decode b_Machine_push 19 = .ok (.putfield 67, 3) := by decide +kernel
theorem d_Machine_push_22 : decode b_Machine_push 22 = .ok (.return_, 1) := by decide +kernel
theorem d_Machine_pop_0 : decode b_Machine_pop 0 = .ok (.aload_n 0, 1) := by decide +kernel
theorem d_Machine_pop_1 : decode b_Machine_pop 1 = .ok (.dup, 1) := by decide +kernel
theorem d_Machine_pop_2 : decode b_Machine_pop 2 = .ok (.getfield 67, 3) := by decide +kernel
theorem d_Machine_pop_5 : decode b_Machine_pop 5 = .ok (.iconst 1, 1) := by decide +kernel
theorem d_Machine_pop_6 : decode b_Machine_pop 6 = .ok (.isub, 1) := by decide +kernel
theorem d_Machine_pop_7 : decode b_Machine_pop 7 = .ok (.putfield 67, 3) := by decide +kernel
theorem d_Machine_pop_10 : decode b_Machine_pop 10 = .ok (.aload_n 0, 1) := by decide +kernel
theorem d_Machine_pop_11 : decode b_Machine_pop 11 = .ok (.getfield 24, 3) := by decide +kernel
theorem d_Machine_pop_14 : decode b_Machine_pop 14 = .ok (.aload_n 0, 1) := by decide +kernel
theorem d_Machine_pop_15 : decode b_Machine_pop 15 = .ok (.getfield 67, 3) := by decide +kernel
theorem d_Machine_pop_18 : decode b_Machine_pop 18 = .ok (.invokestatic 88, 3) := by decide +kernel
theorem d_Machine_pop_21 : decode b_Machine_pop 21 = .ok (.ireturn, 1) := by decide +kernel
theorem d_Op_isOf_0 : decode b_Op_isOf 0 = .ok (.iload_n 0, 1) := by decide +kernel
theorem d_Op_isOf_1 : decode b_Op_isOf 1 = .ok (.bipush 16, 2) := by decide +kernel
theorem d_Op_isOf_3 : decode b_Op_isOf 3 = .ok (.if_icmp .ne 13, 3) := by decide +kernel
theorem d_Op_isOf_6 : decode b_Op_isOf 6 = .ok (.iload_n 1, 1) := by decide +kernel
theorem d_Op_isOf_7 : decode b_Op_isOf 7 = .ok (.ifCond .ne 7, 3) := by decide +kernel
theorem d_Op_isOf_10 : decode b_Op_isOf 10 = .ok (.iconst 1, 1) := by decide +kernel
theorem d_Op_isOf_11 : decode b_Op_isOf 11 = .ok (.goto 4, 3) := by decide +kernel
theorem d_Op_isOf_14 : decode b_Op_isOf 14 = .ok (.iconst 0, 1) := by decide +kernel
theorem d_Op_isOf_15 : decode b_Op_isOf 15 = .ok (.ireturn, 1) := by decide +kernel
theorem d_Op_isOf_16 : decode b_Op_isOf 16 = .ok (.iload_n 0, 1) := by decide +kernel
theorem d_Op_isOf_17 : decode b_Op_isOf 17 = .ok (.bipush 18, 2) := by decide +kernel
theorem d_Op_isOf_19 : decode b_Op_isOf 19 = .ok (.if_icmp .ne 14, 3) := by decide +kernel
theorem d_Op_isOf_22 : decode b_Op_isOf 22 = .ok (.iload_n 1, 1) := by decide +kernel
theorem d_Op_isOf_23 : decode b_Op_isOf 23 = .ok (.iconst 3, 1) := by decide +kernel
theorem d_Op_isOf_24 : decode b_Op_isOf 24 = .ok (.if_icmp .ne 7, 3) := by decide +kernel
theorem d_Op_isOf_27 : decode b_Op_isOf 27 = .ok (.iconst 1, 1) := by decide +kernel
theorem d_Op_isOf_28 : decode b_Op_isOf 28 = .ok (.goto 4, 3) := by decide +kernel
theorem d_Op_isOf_31 : decode b_Op_isOf 31 = .ok (.iconst 0, 1) := by decide +kernel
theorem d_Op_isOf_32 : decode b_Op_isOf 32 = .ok (.ireturn, 1) := by decide +kernel
theorem d_Op_isOf_33 : decode b_Op_isOf 33 = .ok (.iload_n 0, 1) := by decide +kernel
theorem d_Op_isOf_34 : decode b_Op_isOf 34 = .ok (.ifCond .lt 13, 3) := by decide +kernel
theorem d_Op_isOf_37 : decode b_Op_isOf 37 = .ok (.iload_n 0, 1) := by decide +kernel
theorem d_Op_isOf_38 : decode b_Op_isOf 38 = .ok (.bipush 17, 2) := by decide +kernel
theorem d_Op_isOf_40 : decode b_Op_isOf 40 = .ok (.if_icmp .gt 7, 3) := by decide +kernel
theorem d_Op_isOf_43 : decode b_Op_isOf 43 = .ok (.iconst 1, 1) := by decide +kernel
theorem d_Op_isOf_44 : decode b_Op_isOf 44 = .ok (.goto 4, 3) := by decide +kernel
theorem d_Op_isOf_47 : decode b_Op_isOf 47 = .ok (.iconst 0, 1) := by decide +kernel
theorem d_Op_isOf_48 : decode b_Op_isOf 48 = .ok (.ireturn, 1) := by decide +kernel
theorem d_Op_needs_0 : decode b_Op_needs 0 = .ok (.iload_n 0, 1) := by decide +kernel
theorem d_Op_needs_1 : decode b_Op_needs 1 = .ok (.bipush 17, 2) := by decide +kernel
theorem d_Op_needs_3 : decode b_Op_needs 3 = .ok (.if_icmp .ne 11, 3) := by decide +kernel
theorem d_Op_needs_6 : decode b_Op_needs 6 = .ok (.iload_n 1, 1) := by decide +kernel
theorem d_Op_needs_7 : decode b_Op_needs 7 = .ok (.ifCond .ne 7, 3) := by decide +kernel
theorem d_Op_needs_10 : decode b_Op_needs 10 = .ok (.iconst 0, 1) := by decide +kernel
theorem d_Op_needs_11 : decode b_Op_needs 11 = .ok (.goto 10, 3) := by decide +kernel
theorem d_Op_needs_14 : decode b_Op_needs 14 = .ok (.getstatic 11, 3) := by decide +kernel
theorem d_Op_needs_17 : decode b_Op_needs 17 = .ok (.iload_n 0, 1) := by decide +kernel
theorem d_Op_needs_18 : decode b_Op_needs 18 = .ok (.invokestatic 15, 3) := by decide +kernel
theorem d_Op_needs_21 : decode b_Op_needs 21 = .ok (.ireturn, 1) := by decide +kernel
theorem d_Op_growth_0 : decode b_Op_growth 0 = .ok (.getstatic 21, 3) := by decide +kernel
theorem d_Op_growth_3 : decode b_Op_growth 3 = .ok (.iload_n 0, 1) := by decide +kernel
theorem d_Op_growth_4 : decode b_Op_growth 4 = .ok (.invokestatic 15, 3) := by decide +kernel
theorem d_Op_growth_7 : decode b_Op_growth 7 = .ok (.ireturn, 1) := by decide +kernel
theorem d_Op_jumps_0 : decode b_Op_jumps 0 = .ok (.iload_n 0, 1) := by decide +kernel
theorem d_Op_jumps_1 : decode b_Op_jumps 1 = .ok (.bipush 14, 2) := by decide +kernel
theorem d_Op_jumps_3 : decode b_Op_jumps 3 = .ok (.if_icmp .eq 9, 3) := by decide +kernel
theorem d_Op_jumps_6 : decode b_Op_jumps 6 = .ok (.iload_n 0, 1) := by decide +kernel
theorem d_Op_jumps_7 : decode b_Op_jumps 7 = .ok (.bipush 15, 2) := by decide +kernel
theorem d_Op_jumps_9 : decode b_Op_jumps 9 = .ok (.if_icmp .ne 7, 3) := by decide +kernel
theorem d_Op_jumps_12 : decode b_Op_jumps 12 = .ok (.iconst 1, 1) := by decide +kernel
theorem d_Op_jumps_13 : decode b_Op_jumps 13 = .ok (.goto 4, 3) := by decide +kernel
theorem d_Op_jumps_16 : decode b_Op_jumps 16 = .ok (.iconst 0, 1) := by decide +kernel
theorem d_Op_jumps_17 : decode b_Op_jumps 17 = .ok (.ireturn, 1) := by decide +kernel
theorem d_Op_hasNext_0 : decode b_Op_hasNext 0 = .ok (.iload_n 0, 1) := by decide +kernel
theorem d_Op_hasNext_1 : decode b_Op_hasNext 1 = .ok (.bipush 14, 2) := by decide +kernel
theorem d_Op_hasNext_3 : decode b_Op_hasNext 3 = .ok (.if_icmp .eq 19, 3) := by decide +kernel
theorem d_Op_hasNext_6 : decode b_Op_hasNext 6 = .ok (.iload_n 0, 1) := by decide +kernel
theorem d_Op_hasNext_7 : decode b_Op_hasNext 7 = .ok (.bipush 17, 2) := by decide +kernel
theorem d_Op_hasNext_9 : decode b_Op_hasNext 9 = .ok (.if_icmp .eq 13, 3) := by decide +kernel
theorem d_Op_hasNext_12 : decode b_Op_hasNext 12 = .ok (.iload_n 0, 1) := by decide +kernel
theorem d_Op_hasNext_13 : decode b_Op_hasNext 13 = .ok (.bipush 18, 2) := by decide +kernel
theorem d_Op_hasNext_15 : decode b_Op_hasNext 15 = .ok (.if_icmp .eq 7, 3) := by decide +kernel
theorem d_Op_hasNext_18 : decode b_Op_hasNext 18 = .ok (.iconst 1, 1) := by decide +kernel
theorem d_Op_hasNext_19 : decode b_Op_hasNext 19 = .ok (.goto 4, 3) := by decide +kernel
theorem d_Op_hasNext_22 : decode b_Op_hasNext 22 = .ok (.iconst 0, 1) := by decide +kernel
theorem d_Op_hasNext_23 : decode b_Op_hasNext 23 = .ok (.ireturn, 1) := by decide +kernel
theorem d_Program_init_0 : decode b_Program_init 0 = .ok (.aload_n 0, 1) := by decide +kernel
theorem d_Program_init_1 : decode b_Program_init 1 = .ok (.invokespecial 3, 3) := by decide +kernel
theorem d_Program_init_4 : decode b_Program_init 4 = .ok (.aload_n 0, 1) := by decide +kernel
theorem d_Program_init_5 : decode b_Program_init 5 = .ok (.bipush 64, 2) := by decide +kernel
theorem d_Program_init_7 : decode b_Program_init 7 = .ok (.newarray .int, 2) := by decide +kernel
theorem d_Program_init_9 : decode b_Program_init 9 = .ok (.putfield 9, 3) := by decide +kernel
theorem d_Program_init_12 : decode b_Program_init 12 = .ok (.aload_n 0, 1) := by decide +kernel
theorem d_Program_init_13 : decode b_Program_init 13 = .ok (.bipush 64, 2) := by decide +kernel
theorem d_Program_init_15 : decode b_Program_init 15 = .ok (.newarray .int, 2) := by decide +kernel
theorem d_Program_init_17 : decode b_Program_init 17 = .ok (.putfield 15, 3) := by decide +kernel
theorem d_Program_init_20 : decode b_Program_init 20 = .ok (.aload_n 0, 1) := by decide +kernel
theorem d_Program_init_21 : decode b_Program_init 21 = .ok (.iload_n 1, 1) := by decide +kernel
theorem d_Program_init_22 : decode b_Program_init 22 = .ok (.putfield 18, 3) := by decide +kernel
theorem d_Program_init_25 : decode b_Program_init 25 = .ok (.aload_n 0, 1) := by decide +kernel
theorem d_Program_init_26 : decode b_Program_init 26 = .ok (.iload_n 1, 1) := by decide +kernel
theorem d_Program_init_27 : decode b_Program_init 27 = .ok (.iconst 1, 1) := by decide +kernel
theorem d_Program_init_28 : decode b_Program_init 28 = .ok (.if_icmp .eq 8, 3) := by decide +kernel
theorem d_Program_init_31 : decode b_Program_init 31 = .ok (.iload_n 1, 1) := by decide +kernel
theorem d_Program_init_32 : decode b_Program_init 32 = .ok (.iconst 2, 1) := by decide +kernel
theorem d_Program_init_33 : decode b_Program_init 33 = .ok (.if_icmp .ne 7, 3) := by decide +kernel
theorem d_Program_init_36 : decode b_Program_init 36 = .ok (.iconst 3, 1) := by decide +kernel
theorem d_Program_init_37 : decode b_Program_init 37 = .ok (.goto 4, 3) := by decide +kernel
theorem d_Program_init_40 : decode b_Program_init 40 = .ok (.iconst 2, 1) := by decide +kernel
theorem d_Program_init_41 : decode b_Program_init 41 = .ok (.putfield 24, 3) := by decide +kernel
theorem d_Program_init_44 : decode b_Program_init 44 = .ok (.return_, 1) := by decide +kernel
theorem d_Program_append_0 : decode b_Program_append 0 = .ok (.aload_n 0, 1) := by decide +kernel
theorem d_Program_append_1 : decode b_Program_append 1 = .ok (.getfield 27, 3) := by decide +kernel
theorem d_Program_append_4 : decode b_Program_append 4 = .ok (.bipush 64, 2) := by decide +kernel
theorem d_Program_append_6 : decode b_Program_append 6 = .ok (.if_icmp .lt 5, 3) := by decide +kernel
theorem d_Program_append_9 : decode b_Program_append 9 = .ok (.iconst 0, 1) := by decide +kernel
theorem d_Program_append_10 : decode b_Program_append 10 = .ok (.ireturn, 1) := by decide +kernel
theorem d_Program_append_11 : decode b_Program_append 11 = .ok (.aload_n 0, 1) := by decide +kernel
theorem d_Program_append_12 : decode b_Program_append 12 = .ok (.getfield 9, 3) := by decide +kernel
theorem d_Program_append_15 : decode b_Program_append 15 = .ok (.aload_n 0, 1) := by decide +kernel
theorem d_Program_append_16 : decode b_Program_append 16 = .ok (.getfield 27, 3) := by decide +kernel
theorem d_Program_append_19 : decode b_Program_append 19 = .ok (.iload_n 1, 1) := by decide +kernel
theorem d_Program_append_20 : decode b_Program_append 20 = .ok (.invokestatic 30, 3) := by decide +kernel
theorem d_Program_append_23 : decode b_Program_append 23 = .ok (.aload_n 0, 1) := by decide +kernel
theorem d_Program_append_24 : decode b_Program_append 24 = .ok (.getfield 15, 3) := by decide +kernel
theorem d_Program_append_27 : decode b_Program_append 27 = .ok (.aload_n 0, 1) := by decide +kernel
theorem d_Program_append_28 : decode b_Program_append 28 = .ok (.getfield 27, 3) := by decide +kernel
theorem d_Program_append_31 : decode b_Program_append 31 = .ok (.iload_n 2, 1) := by decide +kernel
theorem d_Program_append_32 : decode b_Program_append 32 = .ok (.invokestatic 30, 3) := by decide +kernel
theorem d_Program_append_35 : decode b_Program_append 35 = .ok (.aload_n 0, 1) := by decide +kernel
theorem d_Program_append_36 : decode b_Program_append 36 = .ok (.dup, 1) := by decide +kernel
theorem d_Program_append_37 : decode b_Program_append 37 = .ok (.getfield 27, 3) := by decide +kernel
theorem d_Program_append_40 : decode b_Program_append 40 = .ok (.iconst 1, 1) := by decide +kernel
theorem d_Program_append_41 : decode b_Program_append 41 = .ok (.iadd, 1) := by decide +kernel
theorem d_Program_append_42 : decode b_Program_append 42 = .ok (.putfield 27, 3) := by decide +kernel
theorem d_Program_append_45 : decode b_Program_append 45 = .ok (.iconst 1, 1) := by decide +kernel
theorem d_Program_append_46 : decode b_Program_append 46 = .ok (.ireturn, 1) := by decide +kernel
theorem d_Program_keepFirst_0 : decode b_Program_keepFirst 0 = .ok (.aload_n 0, 1) := by decide +kernel
theorem d_Program_keepFirst_1 : decode b_Program_keepFirst 1 = .ok (.iload_n 1, 1) := by decide +kernel
theorem d_Program_keepFirst_2 : decode b_Program_keepFirst 2 = .ok (.putfield 27, 3) := by decide +kernel
theorem d_Program_keepFirst_5 : decode b_Program_keepFirst 5 = .ok (.return_, 1) := by decide +kernel
theorem d_Program_has_0 : decode b_Program_has 0 = .ok (.iload_n 1, 1) := by decide +kernel
theorem d_Program_has_1 : decode b_Program_has 1 = .ok (.ifCond .lt 15, 3) := by decide +kernel
theorem d_Program_has_4 : decode b_Program_has 4 = .ok (.iload_n 1, 1) := by decide +kernel
theorem d_Program_has_5 : decode b_Program_has 5 = .ok (.aload_n 0, 1) := by decide +kernel
theorem d_Program_has_6 : decode b_Program_has 6 = .ok (.getfield 27, 3) := by decide +kernel
theorem d_Program_has_9 : decode b_Program_has 9 = .ok (.if_icmp .ge 7, 3) := by decide +kernel
theorem d_Program_has_12 : decode b_Program_has 12 = .ok (.iconst 1, 1) := by decide +kernel
theorem d_Program_has_13 : decode b_Program_has 13 = .ok (.goto 4, 3) := by decide +kernel
theorem d_Program_has_16 : decode b_Program_has 16 = .ok (.iconst 0, 1) := by decide +kernel
theorem d_Program_has_17 : decode b_Program_has 17 = .ok (.ireturn, 1) := by decide +kernel
theorem d_Program_opAt_0 : decode b_Program_opAt 0 = .ok (.aload_n 0, 1) := by decide +kernel
theorem d_Program_opAt_1 : decode b_Program_opAt 1 = .ok (.getfield 9, 3) := by decide +kernel
theorem d_Program_opAt_4 : decode b_Program_opAt 4 = .ok (.iload_n 1, 1) := by decide +kernel
theorem d_Program_opAt_5 : decode b_Program_opAt 5 = .ok (.invokestatic 34, 3) := by decide +kernel
theorem d_Program_opAt_8 : decode b_Program_opAt 8 = .ok (.ireturn, 1) := by decide +kernel
theorem d_Program_nAt_0 : decode b_Program_nAt 0 = .ok (.aload_n 0, 1) := by decide +kernel
theorem d_Program_nAt_1 : decode b_Program_nAt 1 = .ok (.getfield 15, 3) := by decide +kernel
theorem d_Program_nAt_4 : decode b_Program_nAt 4 = .ok (.iload_n 1, 1) := by decide +kernel
theorem d_Program_nAt_5 : decode b_Program_nAt 5 = .ok (.invokestatic 34, 3) := by decide +kernel
theorem d_Program_nAt_8 : decode b_Program_nAt 8 = .ok (.ireturn, 1) := by decide +kernel
theorem d_Program_isWellFormed_0 : decode b_Program_isWellFormed 0 = .ok (.aload_n 0, 1) := by decide +kernel
theorem d_Program_isWellFormed_1 : decode b_Program_isWellFormed 1 = .ok (.getfield 9, 3) := by decide +kernel
theorem d_Program_isWellFormed_4 : decode b_Program_isWellFormed 4 = .ok (.iload_n 1, 1) := by decide +kernel
theorem d_Program_isWellFormed_5 : decode b_Program_isWellFormed 5 = .ok (.invokestatic 34, 3) := by decide +kernel
theorem d_Program_isWellFormed_8 : decode b_Program_isWellFormed 8 = .ok (.istore_n 2, 1) := by decide +kernel
theorem d_Program_isWellFormed_9 : decode b_Program_isWellFormed 9 = .ok (.aload_n 0, 1) := by decide +kernel
theorem d_Program_isWellFormed_10 : decode b_Program_isWellFormed 10 = .ok (.getfield 15, 3) := by decide +kernel
theorem d_Program_isWellFormed_13 : decode b_Program_isWellFormed 13 = .ok (.iload_n 1, 1) := by decide +kernel
theorem d_Program_isWellFormed_14 : decode b_Program_isWellFormed 14 = .ok (.invokestatic 34, 3) := by decide +kernel
theorem d_Program_isWellFormed_17 : decode b_Program_isWellFormed 17 = .ok (.istore_n 3, 1) := by decide +kernel
theorem d_Program_isWellFormed_18 : decode b_Program_isWellFormed 18 = .ok (.aload_n 0, 1) := by decide +kernel
theorem d_Program_isWellFormed_19 : decode b_Program_isWellFormed 19 = .ok (.iload_n 2, 1) := by decide +kernel
theorem d_Program_isWellFormed_20 : decode b_Program_isWellFormed 20 = .ok (.invokevirtual 38, 3) := by decide +kernel
theorem d_Program_isWellFormed_23 : decode b_Program_isWellFormed 23 = .ok (.istore 4, 2) := by decide +kernel
theorem d_Program_isWellFormed_25 : decode b_Program_isWellFormed 25 = .ok (.iload_n 2, 1) := by decide +kernel
theorem d_Program_isWellFormed_26 : decode b_Program_isWellFormed 26 = .ok (.aload_n 0, 1) := by decide +kernel
theorem d_Program_isWellFormed_27 : decode b_Program_isWellFormed 27 = .ok (.getfield 18, 3) := by decide +kernel
theorem d_Program_isWellFormed_30 : decode b_Program_isWellFormed 30 = .ok (.invokestatic 42, 3) := by decide +kernel
theorem d_Program_isWellFormed_33 : decode b_Program_isWellFormed 33 = .ok (.ifCond .eq 23, 3) := by decide +kernel
theorem d_Program_isWellFormed_36 : decode b_Program_isWellFormed 36 = .ok (.iload 4, 2) := by decide +kernel
theorem d_Program_isWellFormed_38 : decode b_Program_isWellFormed 38 = .ok (.iconst (-1), 1) := by decide +kernel
theorem d_Program_isWellFormed_39 : decode b_Program_isWellFormed 39 = .ok (.if_icmp .eq 13, 3) := by decide +kernel
theorem d_Program_isWellFormed_42 : decode b_Program_isWellFormed 42 = .ok (.iload_n 3, 1) := by decide +kernel
theorem d_Program_isWellFormed_43 : decode b_Program_isWellFormed 43 = .ok (.ifCond .lt 13, 3) := by decide +kernel
theorem d_Program_isWellFormed_46 : decode b_Program_isWellFormed 46 = .ok (.iload_n 3, 1) := by decide +kernel
theorem d_Program_isWellFormed_47 : decode b_Program_isWellFormed 47 = .ok (.iload 4, 2) := by decide +kernel
theorem d_Program_isWellFormed_49 : decode b_Program_isWellFormed 49 = .ok (.if_icmp .ge 7, 3) := by decide +kernel
theorem d_Program_isWellFormed_52 : decode b_Program_isWellFormed 52 = .ok (.iconst 1, 1) := by decide +kernel
theorem d_Program_isWellFormed_53 : decode b_Program_isWellFormed 53 = .ok (.goto 4, 3) := by decide +kernel
theorem d_Program_isWellFormed_56 : decode b_Program_isWellFormed 56 = .ok (.iconst 0, 1) := by decide +kernel
theorem d_Program_isWellFormed_57 : decode b_Program_isWellFormed 57 = .ok (.ireturn, 1) := by decide +kernel
theorem d_Program_limitOfN_0 : decode b_Program_limitOfN 0 = .ok (.iload_n 1, 1) := by decide +kernel
theorem d_Program_limitOfN_1 : decode b_Program_limitOfN 1 = .ok (.tableswitch 87 1 15 #[75, 80, 80, 87, 87, 87, 87, 87, 87, 87, 87, 87, 87, 82, 82], 75) := by decide +kernel
theorem d_Program_limitOfN_76 : decode b_Program_limitOfN 76 = .ok (.aload_n 0, 1) := by decide +kernel
theorem d_Program_limitOfN_77 : decode b_Program_limitOfN 77 = .ok (.getfield 24, 3) := by decide +kernel
theorem d_Program_limitOfN_80 : decode b_Program_limitOfN 80 = .ok (.ireturn, 1) := by decide +kernel
theorem d_Program_limitOfN_81 : decode b_Program_limitOfN 81 = .ok (.iconst 4, 1) := by decide +kernel
theorem d_Program_limitOfN_82 : decode b_Program_limitOfN 82 = .ok (.ireturn, 1) := by decide +kernel
theorem d_Program_limitOfN_83 : decode b_Program_limitOfN 83 = .ok (.aload_n 0, 1) := by decide +kernel
theorem d_Program_limitOfN_84 : decode b_Program_limitOfN 84 = .ok (.getfield 27, 3) := by decide +kernel
theorem d_Program_limitOfN_87 : decode b_Program_limitOfN 87 = .ok (.ireturn, 1) := by decide +kernel
theorem d_Program_limitOfN_88 : decode b_Program_limitOfN 88 = .ok (.iconst (-1), 1) := by decide +kernel
theorem d_Program_limitOfN_89 : decode b_Program_limitOfN 89 = .ok (.ireturn, 1) := by decide +kernel
theorem d_Program_canBeDone_0 : decode b_Program_canBeDone 0 = .ok (.aload_n 0, 1) := by decide +kernel
theorem d_Program_canBeDone_1 : decode b_Program_canBeDone 1 = .ok (.iload_n 1, 1) := by decide +kernel
theorem d_Program_canBeDone_2 : decode b_Program_canBeDone 2 = .ok (.invokevirtual 48, 3) := by decide +kernel
theorem d_Program_canBeDone_5 : decode b_Program_canBeDone 5 = .ok (.istore_n 3, 1) := by decide +kernel
theorem d_Program_canBeDone_6 : decode b_Program_canBeDone 6 = .ok (.aload_n 0, 1) := by decide +kernel
theorem d_Program_canBeDone_7 : decode b_Program_canBeDone 7 = .ok (.iload_n 1, 1) := by decide +kernel
theorem d_Program_canBeDone_8 : decode b_Program_canBeDone 8 = .ok (.invokevirtual 51, 3) := by decide +kernel
theorem d_Program_canBeDone_11 : decode b_Program_canBeDone 11 = .ok (.ifCond .eq 20, 3) := by decide +kernel
theorem d_Program_canBeDone_14 : decode b_Program_canBeDone 14 = .ok (.iload_n 3, 1) := by decide +kernel
theorem d_Program_canBeDone_15 : decode b_Program_canBeDone 15 = .ok (.invokestatic 55, 3) := by decide +kernel
theorem d_Program_canBeDone_18 : decode b_Program_canBeDone 18 = .ok (.ifCond .eq 15, 3) := by decide +kernel
theorem d_Program_canBeDone_21 : decode b_Program_canBeDone 21 = .ok (.aload_n 0, 1) := by decide +kernel
theorem d_Program_canBeDone_22 : decode b_Program_canBeDone 22 = .ok (.iload_n 1, 1) := by decide +kernel
theorem d_Program_canBeDone_23 : decode b_Program_canBeDone 23 = .ok (.iconst 1, 1) := by decide +kernel
theorem d_Program_canBeDone_24 : decode b_Program_canBeDone 24 = .ok (.iadd, 1) := by decide +kernel
theorem d_Program_canBeDone_25 : decode b_Program_canBeDone 25 = .ok (.invokevirtual 58, 3) := by decide +kernel
theorem d_Program_canBeDone_28 : decode b_Program_canBeDone 28 = .ok (.ifCond .ne 5, 3) := by decide +kernel
theorem d_Program_canBeDone_31 : decode b_Program_canBeDone 31 = .ok (.iconst 0, 1) := by decide +kernel
theorem d_Program_canBeDone_32 : decode b_Program_canBeDone 32 = .ok (.ireturn, 1) := by decide +kernel
theorem d_Program_canBeDone_33 : decode b_Program_canBeDone 33 = .ok (.iload_n 2, 1) := by decide +kernel
theorem d_Program_canBeDone_34 : decode b_Program_canBeDone 34 = .ok (.iload_n 3, 1) := by decide +kernel
theorem d_Program_canBeDone_35 : decode b_Program_canBeDone 35 = .ok (.aload_n 0, 1) := by decide +kernel
theorem d_Program_canBeDone_36 : decode b_Program_canBeDone 36 = .ok (.getfield 18, 3) := by decide +kernel
theorem d_Program_canBeDone_39 : decode b_Program_canBeDone 39 = .ok (.invokestatic 61, 3) := by decide +kernel
theorem d_Program_canBeDone_42 : decode b_Program_canBeDone 42 = .ok (.if_icmp .lt 18, 3) := by decide +kernel
theorem d_Program_canBeDone_45 : decode b_Program_canBeDone 45 = .ok (.iload_n 2, 1) := by decide +kernel
theorem d_Program_canBeDone_46 : decode b_Program_canBeDone 46 = .ok (.iload_n 3, 1) := by decide +kernel
theorem d_Program_canBeDone_47 : decode b_Program_canBeDone 47 = .ok (.invokestatic 65, 3) := by decide +kernel
theorem d_Program_canBeDone_50 : decode b_Program_canBeDone 50 = .ok (.iadd, 1) := by decide +kernel
theorem d_Program_canBeDone_51 : decode b_Program_canBeDone 51 = .ok (.bipush 8, 2) := by decide +kernel
theorem d_Program_canBeDone_53 : decode b_Program_canBeDone 53 = .ok (.if_icmp .gt 7, 3) := by decide +kernel
theorem d_Program_canBeDone_56 : decode b_Program_canBeDone 56 = .ok (.iconst 1, 1) := by decide +kernel
theorem d_Program_canBeDone_57 : decode b_Program_canBeDone 57 = .ok (.goto 4, 3) := by decide +kernel
theorem d_Program_canBeDone_60 : decode b_Program_canBeDone 60 = .ok (.iconst 0, 1) := by decide +kernel
theorem d_Program_canBeDone_61 : decode b_Program_canBeDone 61 = .ok (.ireturn, 1) := by decide +kernel
theorem d_Ways_init_0 : decode b_Ways_init 0 = .ok (.aload_n 0, 1) := by decide +kernel
theorem d_Ways_init_1 : decode b_Ways_init 1 = .ok (.invokespecial 3, 3) := by decide +kernel
theorem d_Ways_init_4 : decode b_Ways_init 4 = .ok (.aload_n 0, 1) := by decide +kernel
theorem d_Ways_init_5 : decode b_Ways_init 5 = .ok (.bipush 64, 2) := by decide +kernel
theorem d_Ways_init_7 : decode b_Ways_init 7 = .ok (.newarray .int, 2) := by decide +kernel
theorem d_Ways_init_9 : decode b_Ways_init 9 = .ok (.putfield 9, 3) := by decide +kernel
theorem d_Ways_init_12 : decode b_Ways_init 12 = .ok (.aload_n 0, 1) := by decide +kernel
theorem d_Ways_init_13 : decode b_Ways_init 13 = .ok (.sipush 576, 3) := by decide +kernel
theorem d_Ways_init_16 : decode b_Ways_init 16 = .ok (.newarray .int, 2) := by decide +kernel
theorem d_Ways_init_18 : decode b_Ways_init 18 = .ok (.putfield 15, 3) := by decide +kernel
theorem d_Ways_init_21 : decode b_Ways_init 21 = .ok (.return_, 1) := by decide +kernel
theorem d_Ways_follow_0 : decode b_Ways_follow 0 = .ok (.aload_n 0, 1) := by decide +kernel
theorem d_Ways_follow_1 : decode b_Ways_follow 1 = .ok (.getfield 9, 3) := by decide +kernel
theorem d_Ways_follow_4 : decode b_Ways_follow 4 = .ok (.iconst 0, 1) := by decide +kernel
theorem d_Ways_follow_5 : decode b_Ways_follow 5 = .ok (.invokestatic 18, 3) := by decide +kernel
theorem d_Ways_follow_8 : decode b_Ways_follow 8 = .ok (.aload_n 0, 1) := by decide +kernel
theorem d_Ways_follow_9 : decode b_Ways_follow 9 = .ok (.iconst 0, 1) := by decide +kernel
theorem d_Ways_follow_10 : decode b_Ways_follow 10 = .ok (.putfield 24, 3) := by decide +kernel
theorem d_Ways_follow_13 : decode b_Ways_follow 13 = .ok (.aload_n 0, 1) := by decide +kernel
theorem d_Ways_follow_14 : decode b_Ways_follow 14 = .ok (.aload_n 1, 1) := by decide +kernel
theorem d_Ways_follow_15 : decode b_Ways_follow 15 = .ok (.iconst 0, 1) := by decide +kernel
theorem d_Ways_follow_16 : decode b_Ways_follow 16 = .ok (.iconst 0, 1) := by decide +kernel
theorem d_Ways_follow_17 : decode b_Ways_follow 17 = .ok (.invokevirtual 28, 3) := by decide +kernel
theorem d_Ways_follow_20 : decode b_Ways_follow 20 = .ok (.iconst 0, 1) := by decide +kernel
theorem d_Ways_follow_21 : decode b_Ways_follow 21 = .ok (.istore_n 2, 1) := by decide +kernel
theorem d_Ways_follow_22 : decode b_Ways_follow 22 = .ok (.iload_n 2, 1) := by decide +kernel
theorem d_Ways_follow_23 : decode b_Ways_follow 23 = .ok (.aload_n 0, 1) := by decide +kernel
theorem d_Ways_follow_24 : decode b_Ways_follow 24 = .ok (.getfield 15, 3) := by decide +kernel
theorem d_Ways_follow_27 : decode b_Ways_follow 27 = .ok (.arraylength, 1) := by decide +kernel
theorem d_Ways_follow_28 : decode b_Ways_follow 28 = .ok (.if_icmp .ge 39, 3) := by decide +kernel
theorem d_Ways_follow_31 : decode b_Ways_follow 31 = .ok (.iload_n 2, 1) := by decide +kernel
theorem d_Ways_follow_32 : decode b_Ways_follow 32 = .ok (.aload_n 0, 1) := by decide +kernel
theorem d_Ways_follow_33 : decode b_Ways_follow 33 = .ok (.getfield 24, 3) := by decide +kernel
theorem d_Ways_follow_36 : decode b_Ways_follow 36 = .ok (.if_icmp .ge 31, 3) := by decide +kernel
theorem d_Ways_follow_39 : decode b_Ways_follow 39 = .ok (.aload_n 0, 1) := by decide +kernel
theorem d_Ways_follow_40 : decode b_Ways_follow 40 = .ok (.getfield 15, 3) := by decide +kernel
theorem d_Ways_follow_43 : decode b_Ways_follow 43 = .ok (.iload_n 2, 1) := by decide +kernel
theorem d_Ways_follow_44 : decode b_Ways_follow 44 = .ok (.invokestatic 32, 3) := by decide +kernel
theorem d_Ways_follow_47 : decode b_Ways_follow 47 = .ok (.istore_n 3, 1) := by decide +kernel
theorem d_Ways_follow_48 : decode b_Ways_follow 48 = .ok (.aload_n 0, 1) := by decide +kernel
theorem d_Ways_follow_49 : decode b_Ways_follow 49 = .ok (.aload_n 1, 1) := by decide +kernel
theorem d_Ways_follow_50 : decode b_Ways_follow 50 = .ok (.iload_n 3, 1) := by decide +kernel
theorem d_Ways_follow_51 : decode b_Ways_follow 51 = .ok (.bipush 9, 2) := by decide +kernel
theorem d_Ways_follow_53 : decode b_Ways_follow 53 = .ok (.idiv, 1) := by decide +kernel
theorem d_Ways_follow_54 : decode b_Ways_follow 54 = .ok (.iload_n 3, 1) := by decide +kernel
theorem d_Ways_follow_55 : decode b_Ways_follow 55 = .ok (.bipush 9, 2) := by decide +kernel
theorem d_Ways_follow_57 : decode b_Ways_follow 57 = .ok (.irem, 1) := by decide +kernel
theorem d_Ways_follow_58 : decode b_Ways_follow 58 = .ok (.invokevirtual 36, 3) := by decide +kernel
theorem d_Ways_follow_61 : decode b_Ways_follow 61 = .ok (.iinc 2 1, 3) := by decide +kernel
theorem d_Ways_follow_64 : decode b_Ways_follow 64 = .ok (.goto (-42), 3) := by decide +kernel
theorem d_Ways_follow_67 : decode b_Ways_follow 67 = .ok (.return_, 1) := by decide +kernel
theorem d_Ways_goOn_0 : decode b_Ways_goOn 0 = .ok (.aload_n 1, 1) := by decide +kernel
theorem d_Ways_goOn_1 : decode b_Ways_goOn 1 = .ok (.iload_n 2, 1) := by decide +kernel
theorem d_Ways_goOn_2 : decode b_Ways_goOn 2 = .ok (.iload_n 3, 1) := by decide +kernel
theorem d_Ways_goOn_3 : decode b_Ways_goOn 3 = .ok (.invokevirtual 39, 3) := by decide +kernel
theorem d_Ways_goOn_6 : decode b_Ways_goOn 6 = .ok (.ifCond .ne 4, 3) := by decide +kernel
theorem d_Ways_goOn_9 : decode b_Ways_goOn 9 = .ok (.return_, 1) := by decide +kernel
theorem d_Ways_goOn_10 : decode b_Ways_goOn 10 = .ok (.aload_n 1, 1) := by decide +kernel
theorem d_Ways_goOn_11 : decode b_Ways_goOn 11 = .ok (.iload_n 2, 1) := by decide +kernel
theorem d_Ways_goOn_12 : decode b_Ways_goOn 12 = .ok (.invokevirtual 45, 3) := by decide +kernel
theorem d_Ways_goOn_15 : decode b_Ways_goOn 15 = .ok (.istore 4, 2) := by decide +kernel
theorem d_Ways_goOn_17 : decode b_Ways_goOn 17 = .ok (.iload_n 3, 1) := by decide +kernel
theorem d_Ways_goOn_18 : decode b_Ways_goOn 18 = .ok (.iload 4, 2) := by decide +kernel
theorem d_Ways_goOn_20 : decode b_Ways_goOn 20 = .ok (.invokestatic 49, 3) := by decide +kernel
theorem d_Ways_goOn_23 : decode b_Ways_goOn 23 = .ok (.iadd, 1) := by decide +kernel
theorem d_Ways_goOn_24 : decode b_Ways_goOn 24 = .ok (.istore 5, 2) := by decide +kernel
theorem d_Ways_goOn_26 : decode b_Ways_goOn 26 = .ok (.iload 4, 2) := by decide +kernel
theorem d_Ways_goOn_28 : decode b_Ways_goOn 28 = .ok (.invokestatic 54, 3) := by decide +kernel
theorem d_Ways_goOn_31 : decode b_Ways_goOn 31 = .ok (.ifCond .eq 13, 3) := by decide +kernel
theorem d_Ways_goOn_34 : decode b_Ways_goOn 34 = .ok (.aload_n 0, 1) := by decide +kernel
theorem d_Ways_goOn_35 : decode b_Ways_goOn 35 = .ok (.aload_n 1, 1) := by decide +kernel
theorem d_Ways_goOn_36 : decode b_Ways_goOn 36 = .ok (.iload_n 2, 1) := by decide +kernel
theorem d_Ways_goOn_37 : decode b_Ways_goOn 37 = .ok (.iconst 1, 1) := by decide +kernel
theorem d_Ways_goOn_38 : decode b_Ways_goOn 38 = .ok (.iadd, 1) := by decide +kernel
theorem d_Ways_goOn_39 : decode b_Ways_goOn 39 = .ok (.iload 5, 2) := by decide +kernel
theorem d_Ways_goOn_41 : decode b_Ways_goOn 41 = .ok (.invokevirtual 28, 3) := by decide +kernel
theorem d_Ways_goOn_44 : decode b_Ways_goOn 44 = .ok (.iload 4, 2) := by decide +kernel
theorem d_Ways_goOn_46 : decode b_Ways_goOn 46 = .ok (.invokestatic 58, 3) := by decide +kernel
theorem d_Ways_goOn_49 : decode b_Ways_goOn 49 = .ok (.ifCond .eq 15, 3) := by decide +kernel
theorem d_Ways_goOn_52 : decode b_Ways_goOn 52 = .ok (.aload_n 0, 1) := by decide +kernel
theorem d_Ways_goOn_53 : decode b_Ways_goOn 53 = .ok (.aload_n 1, 1) := by decide +kernel
theorem d_Ways_goOn_54 : decode b_Ways_goOn 54 = .ok (.aload_n 1, 1) := by decide +kernel
theorem d_Ways_goOn_55 : decode b_Ways_goOn 55 = .ok (.iload_n 2, 1) := by decide +kernel
theorem d_Ways_goOn_56 : decode b_Ways_goOn 56 = .ok (.invokevirtual 61, 3) := by decide +kernel
theorem d_Ways_goOn_59 : decode b_Ways_goOn 59 = .ok (.iload 5, 2) := by decide +kernel
theorem d_Ways_goOn_61 : decode b_Ways_goOn 61 = .ok (.invokevirtual 28, 3) := by decide +kernel
theorem d_Ways_goOn_64 : decode b_Ways_goOn 64 = .ok (.return_, 1) := by decide +kernel
theorem d_Ways_reach_0 : decode b_Ways_reach 0 = .ok (.aload_n 1, 1) := by decide +kernel
theorem d_Ways_reach_1 : decode b_Ways_reach 1 = .ok (.iload_n 2, 1) := by decide +kernel
theorem d_Ways_reach_2 : decode b_Ways_reach 2 = .ok (.invokevirtual 64, 3) := by decide +kernel
theorem d_Ways_reach_5 : decode b_Ways_reach 5 = .ok (.ifCond .eq 12, 3) := by decide +kernel
theorem d_Ways_reach_8 : decode b_Ways_reach 8 = .ok (.aload_n 0, 1) := by decide +kernel
theorem d_Ways_reach_9 : decode b_Ways_reach 9 = .ok (.iload_n 2, 1) := by decide +kernel
theorem d_Ways_reach_10 : decode b_Ways_reach 10 = .ok (.iload_n 3, 1) := by decide +kernel
theorem d_Ways_reach_11 : decode b_Ways_reach 11 = .ok (.invokevirtual 67, 3) := by decide +kernel
theorem d_Ways_reach_14 : decode b_Ways_reach 14 = .ok (.ifCond .eq 4, 3) := by decide +kernel
theorem d_Ways_reach_17 : decode b_Ways_reach 17 = .ok (.return_, 1) := by decide +kernel
theorem d_Ways_reach_18 : decode b_Ways_reach 18 = .ok (.aload_n 0, 1) := by decide +kernel
theorem d_Ways_reach_19 : decode b_Ways_reach 19 = .ok (.getfield 9, 3) := by decide +kernel
theorem d_Ways_reach_22 : decode b_Ways_reach 22 = .ok (.iload_n 2, 1) := by decide +kernel
theorem d_Ways_reach_23 : decode b_Ways_reach 23 = .ok (.aload_n 0, 1) := by decide +kernel
theorem d_Ways_reach_24 : decode b_Ways_reach 24 = .ok (.getfield 9, 3) := by decide +kernel
theorem d_Ways_reach_27 : decode b_Ways_reach 27 = .ok (.iload_n 2, 1) := by decide +kernel
theorem d_Ways_reach_28 : decode b_Ways_reach 28 = .ok (.invokestatic 32, 3) := by decide +kernel
theorem d_Ways_reach_31 : decode b_Ways_reach 31 = .ok (.iconst 1, 1) := by decide +kernel
theorem d_Ways_reach_32 : decode b_Ways_reach 32 = .ok (.iload_n 3, 1) := by decide +kernel
theorem d_Ways_reach_33 : decode b_Ways_reach 33 = .ok (.ishl, 1) := by decide +kernel
theorem d_Ways_reach_34 : decode b_Ways_reach 34 = .ok (.ior, 1) := by decide +kernel
theorem d_Ways_reach_35 : decode b_Ways_reach 35 = .ok (.invokestatic 70, 3) := by decide +kernel
theorem d_Ways_reach_38 : decode b_Ways_reach 38 = .ok (.aload_n 0, 1) := by decide +kernel
theorem d_Ways_reach_39 : decode b_Ways_reach 39 = .ok (.getfield 15, 3) := by decide +kernel
theorem d_Ways_reach_42 : decode b_Ways_reach 42 = .ok (.aload_n 0, 1) := by decide +kernel
theorem d_Ways_reach_43 : decode b_Ways_reach 43 = .ok (.getfield 24, 3) := by decide +kernel
theorem d_Ways_reach_46 : decode b_Ways_reach 46 = .ok (.iload_n 2, 1) := by decide +kernel
theorem d_Ways_reach_47 : decode b_Ways_reach 47 = .ok (.bipush 9, 2) := by decide +kernel
theorem d_Ways_reach_49 : decode b_Ways_reach 49 = .ok (.imul, 1) := by decide +kernel
theorem d_Ways_reach_50 : decode b_Ways_reach 50 = .ok (.iload_n 3, 1) := by decide +kernel
theorem d_Ways_reach_51 : decode b_Ways_reach 51 = .ok (.iadd, 1) := by decide +kernel
theorem d_Ways_reach_52 : decode b_Ways_reach 52 = .ok (.invokestatic 70, 3) := by decide +kernel
theorem d_Ways_reach_55 : decode b_Ways_reach 55 = .ok (.aload_n 0, 1) := by decide +kernel
theorem d_Ways_reach_56 : decode b_Ways_reach 56 = .ok (.dup, 1) := by decide +kernel
theorem d_Ways_reach_57 : decode b_Ways_reach 57 = .ok (.getfield 24, 3) := by decide +kernel
theorem d_Ways_reach_60 : decode b_Ways_reach 60 = .ok (.iconst 1, 1) := by decide +kernel
theorem d_Ways_reach_61 : decode b_Ways_reach 61 = .ok (.iadd, 1) := by decide +kernel
theorem d_Ways_reach_62 : decode b_Ways_reach 62 = .ok (.putfield 24, 3) := by decide +kernel
theorem d_Ways_reach_65 : decode b_Ways_reach 65 = .ok (.return_, 1) := by decide +kernel
theorem d_Ways_isReached_0 : decode b_Ways_isReached 0 = .ok (.aload_n 0, 1) := by decide +kernel
theorem d_Ways_isReached_1 : decode b_Ways_isReached 1 = .ok (.getfield 9, 3) := by decide +kernel
theorem d_Ways_isReached_4 : decode b_Ways_isReached 4 = .ok (.iload_n 1, 1) := by decide +kernel
theorem d_Ways_isReached_5 : decode b_Ways_isReached 5 = .ok (.invokestatic 32, 3) := by decide +kernel
theorem d_Ways_isReached_8 : decode b_Ways_isReached 8 = .ok (.iload_n 2, 1) := by decide +kernel
theorem d_Ways_isReached_9 : decode b_Ways_isReached 9 = .ok (.ishr, 1) := by decide +kernel
theorem d_Ways_isReached_10 : decode b_Ways_isReached 10 = .ok (.iconst 1, 1) := by decide +kernel
theorem d_Ways_isReached_11 : decode b_Ways_isReached 11 = .ok (.iand, 1) := by decide +kernel
theorem d_Ways_isReached_12 : decode b_Ways_isReached 12 = .ok (.ifCond .eq 7, 3) := by decide +kernel
theorem d_Ways_isReached_15 : decode b_Ways_isReached 15 = .ok (.iconst 1, 1) := by decide +kernel
theorem d_Ways_isReached_16 : decode b_Ways_isReached 16 = .ok (.goto 4, 3) := by decide +kernel
theorem d_Ways_isReached_19 : decode b_Ways_isReached 19 = .ok (.iconst 0, 1) := by decide +kernel
theorem d_Ways_isReached_20 : decode b_Ways_isReached 20 = .ok (.ireturn, 1) := by decide +kernel
theorem d_Ways_firstWrong_0 : decode b_Ways_firstWrong 0 = .ok (.iconst 0, 1) := by decide +kernel
theorem d_Ways_firstWrong_1 : decode b_Ways_firstWrong 1 = .ok (.istore_n 2, 1) := by decide +kernel
theorem d_Ways_firstWrong_2 : decode b_Ways_firstWrong 2 = .ok (.iload_n 2, 1) := by decide +kernel
theorem d_Ways_firstWrong_3 : decode b_Ways_firstWrong 3 = .ok (.aload_n 1, 1) := by decide +kernel
theorem d_Ways_firstWrong_4 : decode b_Ways_firstWrong 4 = .ok (.getfield 74, 3) := by decide +kernel
theorem d_Ways_firstWrong_7 : decode b_Ways_firstWrong 7 = .ok (.if_icmp .ge 20, 3) := by decide +kernel
theorem d_Ways_firstWrong_10 : decode b_Ways_firstWrong 10 = .ok (.aload_n 0, 1) := by decide +kernel
theorem d_Ways_firstWrong_11 : decode b_Ways_firstWrong 11 = .ok (.aload_n 1, 1) := by decide +kernel
theorem d_Ways_firstWrong_12 : decode b_Ways_firstWrong 12 = .ok (.iload_n 2, 1) := by decide +kernel
theorem d_Ways_firstWrong_13 : decode b_Ways_firstWrong 13 = .ok (.invokevirtual 77, 3) := by decide +kernel
theorem d_Ways_firstWrong_16 : decode b_Ways_firstWrong 16 = .ok (.ifCond .eq 5, 3) := by decide +kernel
theorem d_Ways_firstWrong_19 : decode b_Ways_firstWrong 19 = .ok (.iload_n 2, 1) := by decide +kernel
theorem d_Ways_firstWrong_20 : decode b_Ways_firstWrong 20 = .ok (.ireturn, 1) := by decide +kernel
theorem d_Ways_firstWrong_21 : decode b_Ways_firstWrong 21 = .ok (.iinc 2 1, 3) := by decide +kernel
theorem d_Ways_firstWrong_24 : decode b_Ways_firstWrong 24 = .ok (.goto (-22), 3) := by decide +kernel
theorem d_Ways_firstWrong_27 : decode b_Ways_firstWrong 27 = .ok (.bipush (-2), 2) := by decide +kernel
theorem d_Ways_firstWrong_29 : decode b_Ways_firstWrong 29 = .ok (.ireturn, 1) := by decide +kernel
theorem d_Ways_isWrong_0 : decode b_Ways_isWrong 0 = .ok (.aload_n 1, 1) := by decide +kernel
theorem d_Ways_isWrong_1 : decode b_Ways_isWrong 1 = .ok (.iload_n 2, 1) := by decide +kernel
theorem d_Ways_isWrong_2 : decode b_Ways_isWrong 2 = .ok (.invokevirtual 81, 3) := by decide +kernel
theorem d_Ways_isWrong_5 : decode b_Ways_isWrong 5 = .ok (.ifCond .eq 18, 3) := by decide +kernel
theorem d_Ways_isWrong_8 : decode b_Ways_isWrong 8 = .ok (.aload_n 0, 1) := by decide +kernel
theorem d_Ways_isWrong_9 : decode b_Ways_isWrong 9 = .ok (.getfield 9, 3) := by decide +kernel
theorem d_Ways_isWrong_12 : decode b_Ways_isWrong 12 = .ok (.iload_n 2, 1) := by decide +kernel
theorem d_Ways_isWrong_13 : decode b_Ways_isWrong 13 = .ok (.invokestatic 32, 3) := by decide +kernel
theorem d_Ways_isWrong_16 : decode b_Ways_isWrong 16 = .ok (.invokestatic 84, 3) := by decide +kernel
theorem d_Ways_isWrong_19 : decode b_Ways_isWrong 19 = .ok (.iconst 1, 1) := by decide +kernel
theorem d_Ways_isWrong_20 : decode b_Ways_isWrong 20 = .ok (.if_icmp .le 5, 3) := by decide +kernel
theorem d_Ways_isWrong_23 : decode b_Ways_isWrong 23 = .ok (.iconst 1, 1) := by decide +kernel
theorem d_Ways_isWrong_24 : decode b_Ways_isWrong 24 = .ok (.ireturn, 1) := by decide +kernel
theorem d_Ways_isWrong_25 : decode b_Ways_isWrong 25 = .ok (.iconst 0, 1) := by decide +kernel
theorem d_Ways_isWrong_26 : decode b_Ways_isWrong 26 = .ok (.istore_n 3, 1) := by decide +kernel
theorem d_Ways_isWrong_27 : decode b_Ways_isWrong 27 = .ok (.iload_n 3, 1) := by decide +kernel
theorem d_Ways_isWrong_28 : decode b_Ways_isWrong 28 = .ok (.bipush 9, 2) := by decide +kernel
theorem d_Ways_isWrong_30 : decode b_Ways_isWrong 30 = .ok (.if_icmp .ge 29, 3) := by decide +kernel
theorem d_Ways_isWrong_33 : decode b_Ways_isWrong 33 = .ok (.aload_n 0, 1) := by decide +kernel
theorem d_Ways_isWrong_34 : decode b_Ways_isWrong 34 = .ok (.iload_n 2, 1) := by decide +kernel
theorem d_Ways_isWrong_35 : decode b_Ways_isWrong 35 = .ok (.iload_n 3, 1) := by decide +kernel
theorem d_Ways_isWrong_36 : decode b_Ways_isWrong 36 = .ok (.invokevirtual 67, 3) := by decide +kernel
theorem d_Ways_isWrong_39 : decode b_Ways_isWrong 39 = .ok (.ifCond .eq 14, 3) := by decide +kernel
theorem d_Ways_isWrong_42 : decode b_Ways_isWrong 42 = .ok (.aload_n 1, 1) := by decide +kernel
theorem d_Ways_isWrong_43 : decode b_Ways_isWrong 43 = .ok (.iload_n 2, 1) := by decide +kernel
theorem d_Ways_isWrong_44 : decode b_Ways_isWrong 44 = .ok (.iload_n 3, 1) := by decide +kernel
theorem d_Ways_isWrong_45 : decode b_Ways_isWrong 45 = .ok (.invokevirtual 39, 3) := by decide +kernel
theorem d_Ways_isWrong_48 : decode b_Ways_isWrong 48 = .ok (.ifCond .ne 5, 3) := by decide +kernel
theorem d_Ways_isWrong_51 : decode b_Ways_isWrong 51 = .ok (.iconst 1, 1) := by decide +kernel
theorem d_Ways_isWrong_52 : decode b_Ways_isWrong 52 = .ok (.ireturn, 1) := by decide +kernel
theorem d_Ways_isWrong_53 : decode b_Ways_isWrong 53 = .ok (.iinc 3 1, 3) := by decide +kernel
theorem d_Ways_isWrong_56 : decode b_Ways_isWrong 56 = .ok (.goto (-29), 3) := by decide +kernel
theorem d_Ways_isWrong_59 : decode b_Ways_isWrong 59 = .ok (.iconst 0, 1) := by decide +kernel
theorem d_Ways_isWrong_60 : decode b_Ways_isWrong 60 = .ok (.ireturn, 1) := by decide +kernel
theorem d_Integer_bitCount_0 : decode b_Integer_bitCount 0 = .ok (.iload_n 0, 1) := by decide +kernel
theorem d_Integer_bitCount_1 : decode b_Integer_bitCount 1 = .ok (.iload_n 0, 1) := by decide +kernel
theorem d_Integer_bitCount_2 : decode b_Integer_bitCount 2 = .ok (.iconst 1, 1) := by decide +kernel
theorem d_Integer_bitCount_3 : decode b_Integer_bitCount 3 = .ok (.iushr, 1) := by decide +kernel
theorem d_Integer_bitCount_4 : decode b_Integer_bitCount 4 = .ok (.ldc_w 265, 3) := by decide +kernel
theorem d_Integer_bitCount_7 : decode b_Integer_bitCount 7 = .ok (.iand, 1) := by decide +kernel
theorem d_Integer_bitCount_8 : decode b_Integer_bitCount 8 = .ok (.isub, 1) := by decide +kernel
theorem d_Integer_bitCount_9 : decode b_Integer_bitCount 9 = .ok (.istore_n 0, 1) := by decide +kernel
theorem d_Integer_bitCount_10 : decode b_Integer_bitCount 10 = .ok (.iload_n 0, 1) := by decide +kernel
theorem d_Integer_bitCount_11 : decode b_Integer_bitCount 11 = .ok (.ldc_w 266, 3) := by decide +kernel
theorem d_Integer_bitCount_14 : decode b_Integer_bitCount 14 = .ok (.iand, 1) := by decide +kernel
theorem d_Integer_bitCount_15 : decode b_Integer_bitCount 15 = .ok (.iload_n 0, 1) := by decide +kernel
theorem d_Integer_bitCount_16 : decode b_Integer_bitCount 16 = .ok (.iconst 2, 1) := by decide +kernel
theorem d_Integer_bitCount_17 : decode b_Integer_bitCount 17 = .ok (.iushr, 1) := by decide +kernel
theorem d_Integer_bitCount_18 : decode b_Integer_bitCount 18 = .ok (.ldc_w 266, 3) := by decide +kernel
theorem d_Integer_bitCount_21 : decode b_Integer_bitCount 21 = .ok (.iand, 1) := by decide +kernel
theorem d_Integer_bitCount_22 : decode b_Integer_bitCount 22 = .ok (.iadd, 1) := by decide +kernel
theorem d_Integer_bitCount_23 : decode b_Integer_bitCount 23 = .ok (.istore_n 0, 1) := by decide +kernel
theorem d_Integer_bitCount_24 : decode b_Integer_bitCount 24 = .ok (.iload_n 0, 1) := by decide +kernel
theorem d_Integer_bitCount_25 : decode b_Integer_bitCount 25 = .ok (.iload_n 0, 1) := by decide +kernel
theorem d_Integer_bitCount_26 : decode b_Integer_bitCount 26 = .ok (.iconst 4, 1) := by decide +kernel
theorem d_Integer_bitCount_27 : decode b_Integer_bitCount 27 = .ok (.iushr, 1) := by decide +kernel
theorem d_Integer_bitCount_28 : decode b_Integer_bitCount 28 = .ok (.iadd, 1) := by decide +kernel
theorem d_Integer_bitCount_29 : decode b_Integer_bitCount 29 = .ok (.ldc_w 267, 3) := by decide +kernel
theorem d_Integer_bitCount_32 : decode b_Integer_bitCount 32 = .ok (.iand, 1) := by decide +kernel
theorem d_Integer_bitCount_33 : decode b_Integer_bitCount 33 = .ok (.istore_n 0, 1) := by decide +kernel
theorem d_Integer_bitCount_34 : decode b_Integer_bitCount 34 = .ok (.iload_n 0, 1) := by decide +kernel
theorem d_Integer_bitCount_35 : decode b_Integer_bitCount 35 = .ok (.iload_n 0, 1) := by decide +kernel
theorem d_Integer_bitCount_36 : decode b_Integer_bitCount 36 = .ok (.bipush 8, 2) := by decide +kernel
theorem d_Integer_bitCount_38 : decode b_Integer_bitCount 38 = .ok (.iushr, 1) := by decide +kernel
theorem d_Integer_bitCount_39 : decode b_Integer_bitCount 39 = .ok (.iadd, 1) := by decide +kernel
theorem d_Integer_bitCount_40 : decode b_Integer_bitCount 40 = .ok (.istore_n 0, 1) := by decide +kernel
theorem d_Integer_bitCount_41 : decode b_Integer_bitCount 41 = .ok (.iload_n 0, 1) := by decide +kernel
theorem d_Integer_bitCount_42 : decode b_Integer_bitCount 42 = .ok (.iload_n 0, 1) := by decide +kernel
theorem d_Integer_bitCount_43 : decode b_Integer_bitCount 43 = .ok (.bipush 16, 2) := by decide +kernel
theorem d_Integer_bitCount_45 : decode b_Integer_bitCount 45 = .ok (.iushr, 1) := by decide +kernel
theorem d_Integer_bitCount_46 : decode b_Integer_bitCount 46 = .ok (.iadd, 1) := by decide +kernel
theorem d_Integer_bitCount_47 : decode b_Integer_bitCount 47 = .ok (.istore_n 0, 1) := by decide +kernel
theorem d_Integer_bitCount_48 : decode b_Integer_bitCount 48 = .ok (.iload_n 0, 1) := by decide +kernel
theorem d_Integer_bitCount_49 : decode b_Integer_bitCount 49 = .ok (.bipush 63, 2) := by decide +kernel
theorem d_Integer_bitCount_51 : decode b_Integer_bitCount 51 = .ok (.iand, 1) := by decide +kernel
theorem d_Integer_bitCount_52 : decode b_Integer_bitCount 52 = .ok (.ireturn, 1) := by decide +kernel
theorem d_Arrays_fill_0 : decode b_Arrays_fill 0 = .ok (.iconst 0, 1) := by decide +kernel
theorem d_Arrays_fill_1 : decode b_Arrays_fill 1 = .ok (.istore_n 2, 1) := by decide +kernel
theorem d_Arrays_fill_2 : decode b_Arrays_fill 2 = .ok (.aload_n 0, 1) := by decide +kernel
theorem d_Arrays_fill_3 : decode b_Arrays_fill 3 = .ok (.arraylength, 1) := by decide +kernel
theorem d_Arrays_fill_4 : decode b_Arrays_fill 4 = .ok (.istore_n 3, 1) := by decide +kernel
theorem d_Arrays_fill_5 : decode b_Arrays_fill 5 = .ok (.iload_n 2, 1) := by decide +kernel
theorem d_Arrays_fill_6 : decode b_Arrays_fill 6 = .ok (.iload_n 3, 1) := by decide +kernel
theorem d_Arrays_fill_7 : decode b_Arrays_fill 7 = .ok (.if_icmp .ge 13, 3) := by decide +kernel
theorem d_Arrays_fill_10 : decode b_Arrays_fill 10 = .ok (.aload_n 0, 1) := by decide +kernel
theorem d_Arrays_fill_11 : decode b_Arrays_fill 11 = .ok (.iload_n 2, 1) := by decide +kernel
theorem d_Arrays_fill_12 : decode b_Arrays_fill 12 = .ok (.iload_n 1, 1) := by decide +kernel
theorem d_Arrays_fill_13 : decode b_Arrays_fill 13 = .ok (.iastore, 1) := by decide +kernel
theorem d_Arrays_fill_14 : decode b_Arrays_fill 14 = .ok (.iinc 2 1, 3) := by decide +kernel
theorem d_Arrays_fill_17 : decode b_Arrays_fill 17 = .ok (.goto (-12), 3) := by decide +kernel
theorem d_Arrays_fill_20 : decode b_Arrays_fill 20 = .ok (.return_, 1) := by decide +kernel
end
section
/-! the ways of a program: what can be reached, in numbers -/
theorem rd_in (f : Nat → Int32) {n j : Nat} (hj : j < n) (hn : n < 2 ^ 31) : rd f n (nI j) = f j := by
  unfold rd
  rw [if_neg (nI_pos (by omega)), if_neg (by rw [nI_leI hn (by omega)]; omega), nI_clamp (by omega)]
theorem wr_in (f : Nat → Int32) {n j : Nat} (hj : j < n) (hn : n < 2 ^ 31) (v : Int32) : wr f n (nI j) v = upd f j v := by
  unfold wr
  rw [if_neg (nI_pos (by omega)), if_neg (by rw [nI_leI hn (by omega)]; omega), nI_clamp (by omega)]
theorem has_in {n k : Nat} (hn : n ≤ 64) (hk : k < n) : p_has (nI n) (nI k) = 1 := by
  unfold p_has
  rw [if_neg (nI_pos (by omega)), if_neg (by rw [nI_leI (by omega) (by omega)]; omega)]
theorem bt_get : ∀ m, m < 512 → ∀ h, h < 9 → (((nI m >>> (nI h &&& 31)) &&& 1 = 0) ↔ m.testBit h = false) := by decide +kernel
theorem bt_set : ∀ m, m < 512 → ∀ h, h < 9 → nI m ||| (1 <<< (nI h &&& 31)) = nI (m ||| 2 ^ h) ∧ m ||| 2 ^ h < 512 := by decide +kernel
theorem fit_h : ∀ o, o < 19 → ∀ h, h < 9 → ¬ nI h < rd tNeeds 19 (nI o) → ¬ 8 < nI h + o_grow (nI o) → (nI h + o_grow (nI o)).toNatClampNeg < 9 ∧ nI h + o_grow (nI o) = nI (nI h + o_grow (nI o)).toNatClampNeg := by decide +kernel
theorem isOf_o {op kd : Int32} (h : ¬ o_isOf op kd = 0) : ∃ o, o < 19 ∧ op = nI o := by
  unfold o_isOf at h
  by_cases h16 : op = 16
  · exact ⟨16, by omega, h16⟩
  by_cases h18 : op = 18
  · exact ⟨18, by omega, h18⟩
  rw [if_neg h16, if_neg h18] at h
  by_cases h0 : op < 0
  · rw [if_pos h0] at h; exact absurd rfl h
  rw [if_neg h0] at h
  by_cases h17 : 17 < op
  · rw [if_pos h17] at h; exact absurd rfl h
  obtain ⟨j, hj, e⟩ := nI_of2 (M := 17) (n := 17) (by decide) h0 (Int32.not_lt.mp h17)
  exact ⟨j, by omega, e⟩
theorem wf_isOf {kd sz ac : Int32} {fo fn : Nat → Int32} {k : Int32} (h : ¬ p_wf kd sz ac fo fn k = 0) : ¬ o_isOf (rd fo 64 k) kd = 0 := by
  intro h1
  unfold p_wf at h
  rw [if_pos h1] at h
  exact h rfl
theorem wf_lim {kd sz ac : Int32} {fo fn : Nat → Int32} {k : Int32} (h : ¬ p_wf kd sz ac fo fn k = 0) (hl : ¬ p_lim ac sz (rd fo 64 k) = -1) : ¬ rd fn 64 k < 0 ∧ ¬ p_lim ac sz (rd fo 64 k) ≤ rd fn 64 k := by
  unfold p_wf at h
  rw [if_neg (wf_isOf (by unfold p_wf; exact h)), if_neg hl] at h
  by_cases h0 : rd fn 64 k < 0
  · rw [if_pos h0] at h; exact absurd rfl h
  rw [if_neg h0] at h
  by_cases h1 : p_lim ac sz (rd fo 64 k) ≤ rd fn 64 k
  · rw [if_pos h1] at h; exact absurd rfl h
  exact ⟨h0, h1⟩
theorem nI_ne_m1 {n : Nat} (h : n < 2 ^ 31) : ¬ nI n = -1 := fun e => by
  have h1 := nI_pos h
  rw [e] at h1
  exact h1 (by decide)
theorem jump_lim {ac sz op : Int32} (h : ¬ o_jump op = 0) : p_lim ac sz op = sz := by
  unfold o_jump at h
  by_cases h14 : op = 14
  · subst h14; rfl
  by_cases h15 : op = 15
  · subst h15; rfl
  rw [if_neg h14, if_neg h15] at h
  exact absurd rfl h
section
variable (kd ac : Int32) (n : Nat) (fo fn : Nat → Int32)
/-- k can be done with height h -/
def cb (k h : Nat) : Prop := ¬ p_cbd kd (nI n) ac fo fn (nI k) (nI h) = 0
/-- k' with h' comes next after k with h -/
def nxt (k h k' h' : Nat) : Prop := k' < n ∧ h' < 9 ∧ nI h + o_grow (fo k) = nI h' ∧ ((¬ o_next (fo k) = 0 ∧ k' = k + 1) ∨ (¬ o_jump (fo k) = 0 ∧ fn k = nI k'))
def clo (S : Nat → Nat → Prop) : Prop := ∀ k h k' h', k < n → h < 9 → S k h → cb kd ac n fo fn k h → nxt n fo fn k h k' h' → S k' h'
def Rch (k h : Nat) : Prop := ∀ S : Nat → Nat → Prop, S 0 0 → clo kd ac n fo fn S → S k h
end
section
variable {kd ac : Int32} {n : Nat} {fo fn : Nat → Int32}
theorem Rch_0 : Rch kd ac n fo fn 0 0 := fun _ h _ => h
theorem Rch_s {k h k' h' : Nat} (hk : k < n) (hh : h < 9) (h1 : Rch kd ac n fo fn k h) (hc : cb kd ac n fo fn k h) (hn : nxt n fo fn k h k' h') : Rch kd ac n fo fn k' h' := fun S h0 hS => hS k h k' h' hk hh (h1 S h0 hS) hc hn
theorem cb_facts (hn : n ≤ 64) {k h : Nat} (hk : k < n) (hh : h < 9) (hc : cb kd ac n fo fn k h) :
    ¬ p_wf kd (nI n) ac fo fn (nI k) = 0 ∧ (∃ h', h' < 9 ∧ nI h + o_grow (fo k) = nI h') ∧ (¬ o_next (fo k) = 0 → k + 1 < n) ∧ (¬ o_jump (fo k) = 0 → ∃ k', k' < n ∧ fn k = nI k') := by
  have e1 : rd fo 64 (nI k) = fo k := rd_in fo (by omega) (by omega)
  have e2 : rd fn 64 (nI k) = fn k := rd_in fn (by omega) (by omega)
  unfold cb p_cbd at hc
  rw [e1] at hc
  by_cases hw : p_wf kd (nI n) ac fo fn (nI k) = 0
  · rw [if_pos hw] at hc; exact absurd rfl hc
  rw [if_neg hw] at hc
  have hf : ¬ p_fit kd (fo k) (nI h) = 0 ∧ (¬ o_next (fo k) = 0 → k + 1 < n) := by
    by_cases hx : o_next (fo k) = 0
    · rw [if_pos hx] at hc
      exact ⟨hc, fun h => absurd hx h⟩
    · rw [if_neg hx] at hc
      by_cases h2 : p_has (nI n) (nI k + 1) = 0
      · rw [if_pos h2] at hc; exact absurd rfl hc
      · rw [if_neg h2] at hc
        refine ⟨hc, fun _ => ?_⟩
        by_cases h3 : k + 1 < n
        · exact h3
        · exfalso
          apply h2
          unfold p_has
          rw [nI_1, if_neg (nI_pos (by omega)), if_pos (by rw [nI_leI (by omega) (by omega)]; omega)]
  refine ⟨hw, ?_, hf.2, fun hj => ?_⟩
  · obtain ⟨o, ho, eo⟩ := isOf_o (wf_isOf hw)
    rw [e1] at eo
    have hf1 := hf.1
    rw [eo] at hf1 ⊢
    unfold p_fit at hf1
    by_cases h1 : nI h < o_needs (nI o) kd
    · rw [if_pos h1] at hf1; exact absurd rfl hf1
    rw [if_neg h1] at hf1
    by_cases h2 : 8 < nI h + o_grow (nI o)
    · rw [if_pos h2] at hf1; exact absurd rfl hf1
    by_cases h17 : o = 17
    · subst h17
      exact ⟨h, hh, by show nI h + 0 = nI h; exact Int32.add_zero _⟩
    · have h3 : o_needs (nI o) kd = rd tNeeds 19 (nI o) := by
        unfold o_needs
        rw [if_neg (show ¬ nI o = (17 : Int32) from fun q => h17 ((nI_eq (by omega) (by omega)).mp (q : nI o = nI 17)))]
      rw [h3] at h1
      exact ⟨_, (fit_h o ho h hh h1 h2).1, (fit_h o ho h hh h1 h2).2⟩
  · have hl : p_lim ac (nI n) (rd fo 64 (nI k)) = nI n := by rw [e1]; exact jump_lim hj
    have h3 := wf_lim hw (by rw [hl]; exact nI_ne_m1 (by omega))
    rw [hl, e2] at h3
    obtain ⟨j, hj2, ej⟩ := nI_of h3.1
    rw [ej, nI_leI (by omega) hj2] at h3
    exact ⟨j, by omega, ej⟩
end
/-- how many of the first N hold -/
theorem cnt_add (P Q : Nat → Bool) (e0 : Nat) (h0 : P e0 = false) (hq : ∀ e, Q e = (P e || decide (e = e0))) : ∀ N, (List.range N).countP Q = (List.range N).countP P + (if e0 < N then 1 else 0)
  | 0 => by simp
  | N + 1 => by
    rw [List.range_succ, List.countP_append, List.countP_append, cnt_add P Q e0 h0 hq N]
    by_cases h : N = e0
    · subst h
      simp [List.countP_cons, hq, h0]
    · have hQ : Q N = P N := by rw [hq]; simp [h]
      simp only [List.countP_cons, List.countP_nil, hQ]
      by_cases h2 : e0 < N
      · rw [if_pos h2, if_pos (show e0 < N + 1 by omega)]; omega
      · rw [if_neg h2, if_neg (show ¬ e0 < N + 1 by omega)]; omega
def cntB (m : Nat → Nat) : Nat := (List.range 576).countP (fun e => (m (e / 9)).testBit (e % 9))
theorem cntB_le (m : Nat → Nat) : cntB m ≤ 576 := by
  have h := List.countP_le_length (p := fun e => (m (e / 9)).testBit (e % 9)) (l := List.range 576)
  rwa [List.length_range] at h
def addB (m : Nat → Nat) (k h : Nat) : Nat → Nat := fun j => if j = k then m k ||| 2 ^ h else m j
theorem addB_bit (m : Nat → Nat) (k h j i : Nat) : (addB m k h j).testBit i = ((m j).testBit i || (decide (j = k) && decide (i = h))) := by
  unfold addB
  by_cases hj : j = k
  · subst hj
    rw [if_pos rfl, Nat.testBit_or, Nat.testBit_two_pow]
    simp [eq_comm]
  · rw [if_neg hj]
    simp [hj]
theorem cntB_add {m : Nat → Nat} {k h : Nat} (hk : k < 64) (hh : h < 9) (hb : (m k).testBit h = false) : cntB (addB m k h) = cntB m + 1 := by
  unfold cntB
  have e := cnt_add (fun e => (m (e / 9)).testBit (e % 9)) (fun e => (addB m k h (e / 9)).testBit (e % 9)) (9 * k + h) (by
    show (m ((9 * k + h) / 9)).testBit ((9 * k + h) % 9) = false
    rw [show (9 * k + h) / 9 = k by omega, show (9 * k + h) % 9 = h by omega]
    exact hb) (fun e => by
    show (addB m k h (e / 9)).testBit (e % 9) = _
    rw [addB_bit]
    congr 1
    rw [← Bool.decide_and]
    exact decide_eq_decide.mpr ⟨fun q => by omega, fun q => by omega⟩) 576
  rw [e, if_pos (by omega)]
/-- the class's three rows, in numbers: m: the bits; g: what waits, c of them -/
def WI (n : Nat) (Rc : Nat → Nat → Prop) (c : Nat) (m g : Nat → Nat) (u : WS) : Prop :=
  (∀ k, k < 64 → u.1 k = nI (m k) ∧ m k < 512) ∧ (∀ j, j < c → u.2.1 j = nI (g j) ∧ g j < 9 * n ∧ (m (g j / 9)).testBit (g j % 9) = true) ∧ u.2.2 = nI c ∧ c = cntB m ∧
  (∀ k h, k < n → h < 9 → (m k).testBit h = true → (∃ j, j < c ∧ g j = 9 * k + h) ∧ Rc k h)
theorem WI_0 (n : Nat) (Rc : Nat → Nat → Prop) (fw : Nat → Int32) : WI n Rc 0 (fun _ => 0) (fun _ => 0) (fun _ => 0, fw, 0) := by
  refine ⟨fun k _ => ⟨rfl, by show 0 < 512; decide⟩, fun j h => absurd h (Nat.not_lt_zero j), rfl, ?_, fun k h _ _ hb => ?_⟩
  · show 0 = (List.range 576).countP _
    symm
    rw [List.countP_eq_zero]
    intro e _
    simp
  · simp at hb
theorem reach_ok {n : Nat} {Rc : Nat → Nat → Prop} {c : Nat} {m g : Nat → Nat} {u : WS} (hn : n ≤ 64) (hI : WI n Rc c m g u) {k h : Nat} (hk : k < n) (hh : h < 9) (hR : Rc k h) :
    ∃ (c' : Nat) (m' g' : Nat → Nat), WI n Rc c' m' g' (w_reach (nI n) (nI k) (nI h) u) ∧ c ≤ c' ∧ (∀ j, j < c → g' j = g j) ∧ (∀ a b, (m a).testBit b = true → (m' a).testBit b = true) ∧ (m' k).testBit h = true := by
  obtain ⟨h1, h2, h3, h4, h5⟩ := hI
  have hc : c ≤ 576 := by rw [h4]; exact cntB_le m
  have e1 : rd u.1 64 (nI k) = nI (m k) := by rw [rd_in u.1 (by omega) (by omega)]; exact (h1 k (by omega)).1
  unfold w_reach
  rw [has_in hn hk, if_neg (by decide)]
  unfold w_isR
  rw [e1]
  by_cases hb : (m k).testBit h = true
  · have h0 : ¬ ((nI (m k) >>> (nI h &&& 31)) &&& 1 = 0) := fun q => by
      rw [bt_get (m k) (h1 k (by omega)).2 h hh, hb] at q
      exact Bool.noConfusion q
    rw [if_neg h0, if_neg (by decide)]
    exact ⟨c, m, g, ⟨h1, h2, h3, h4, h5⟩, Nat.le_refl _, fun _ _ => rfl, fun _ _ q => q, hb⟩
  · have hb : (m k).testBit h = false := by simpa using hb
    have h0 : (nI (m k) >>> (nI h &&& 31)) &&& 1 = 0 := (bt_get (m k) (h1 k (by omega)).2 h hh).mpr hb
    have hc' : c + 1 = cntB (addB m k h) := by rw [cntB_add (by omega) hh hb, h4]
    have hc2 : c + 1 ≤ 576 := by rw [hc']; exact cntB_le _
    rw [if_pos h0, if_pos rfl, (bt_set (m k) (h1 k (by omega)).2 h hh).1, wr_in u.1 (by omega) (by omega), h3, wr_in u.2.1 (by omega) (by omega), nI_1, show nI k * 9 + nI h = nI (k * 9 + h) by rw [show (9 : Int32) = nI 9 from rfl, pk_mul, nI_add]]
    refine ⟨c + 1, addB m k h, fun j => if j = c then 9 * k + h else g j, ⟨fun a ha => ?_, fun j hj => ?_, rfl, hc', fun a b ha hb' hab => ?_⟩, Nat.le_succ _, fun j hj => if_neg (by omega), fun a b hab => ?_, ?_⟩
    · show upd u.1 k (nI (m k ||| 2 ^ h)) a = nI (addB m k h a) ∧ addB m k h a < 512
      unfold upd addB
      by_cases e : a = k
      · rw [if_pos e, if_pos e]
        exact ⟨rfl, (bt_set (m k) (h1 k (by omega)).2 h hh).2⟩
      · rw [if_neg e, if_neg e]
        exact h1 a ha
    · show upd u.2.1 c (nI (k * 9 + h)) j = nI (if j = c then 9 * k + h else g j) ∧ (if j = c then 9 * k + h else g j) < 9 * n ∧ (addB m k h ((if j = c then 9 * k + h else g j) / 9)).testBit ((if j = c then 9 * k + h else g j) % 9) = true
      unfold upd
      by_cases e : j = c
      · rw [if_pos e, if_pos e, show (9 * k + h) / 9 = k by omega, show (9 * k + h) % 9 = h by omega, addB_bit]
        exact ⟨by rw [Nat.mul_comm], by omega, by simp⟩
      · rw [if_neg e, if_neg e, addB_bit]
        have h6 := h2 j (by omega)
        exact ⟨h6.1, h6.2.1, by rw [h6.2.2]; rfl⟩
    · rw [addB_bit] at hab
      by_cases hab1 : (m a).testBit b = true
      · obtain ⟨⟨j, hj, ej⟩, hr⟩ := h5 a b ha hb' hab1
        exact ⟨⟨j, by omega, by show (if j = c then 9 * k + h else g j) = _; rw [if_neg (by omega)]; exact ej⟩, hr⟩
      · simp [hab1] at hab
        obtain ⟨rfl, rfl⟩ := hab
        exact ⟨⟨c, by omega, by show (if c = c then _ else _) = _; rw [if_pos rfl]⟩, hR⟩
    · rw [addB_bit, hab]; rfl
    · rw [addB_bit]; simp
section
variable {kd ac : Int32} {n : Nat} {fo fn : Nat → Int32}
theorem goOn_ok {c : Nat} {m g : Nat → Nat} {u : WS} (hn : n ≤ 64) (hI : WI n (Rch kd ac n fo fn) c m g u) {k h : Nat} (hk : k < n) (hh : h < 9) (hb : (m k).testBit h = true) :
    ∃ (c' : Nat) (m' g' : Nat → Nat), WI n (Rch kd ac n fo fn) c' m' g' (w_goOn kd (nI n) ac fo fn (nI k) (nI h) u) ∧ c ≤ c' ∧ (∀ j, j < c → g' j = g j) ∧ (∀ a b, (m a).testBit b = true → (m' a).testBit b = true) ∧ (cb kd ac n fo fn k h → ∀ k' h', nxt n fo fn k h k' h' → (m' k').testBit h' = true) := by
  have e1 : rd fo 64 (nI k) = fo k := rd_in fo (by omega) (by omega)
  have e2 : rd fn 64 (nI k) = fn k := rd_in fn (by omega) (by omega)
  have hR := (hI.2.2.2.2 k h hk hh hb).2
  unfold w_goOn
  rw [e1, e2]
  by_cases hc : p_cbd kd (nI n) ac fo fn (nI k) (nI h) = 0
  · rw [if_pos hc]
    exact ⟨c, m, g, hI, Nat.le_refl _, fun _ _ => rfl, fun _ _ q => q, fun q => absurd hc q⟩
  rw [if_neg hc]
  obtain ⟨-, ⟨h1, hh1, eh⟩, hx, hj⟩ := cb_facts hn hk hh hc
  have hsame : ∀ k' h', nxt n fo fn k h k' h' → h' = h1 := fun k' h' q => ((nI_eq (by omega) (by have := q.2.1; omega)).mp (eh.symm.trans q.2.2.1)).symm
  rw [eh]
  by_cases hx0 : o_next (fo k) = 0
  · rw [if_pos hx0]
    by_cases hj0 : o_jump (fo k) = 0
    · rw [if_pos hj0]
      exact ⟨c, m, g, hI, Nat.le_refl _, fun _ _ => rfl, fun _ _ q => q, fun _ k' h' q => by
        rcases q.2.2.2 with q | q
        · exact absurd hx0 q.1
        · exact absurd hj0 q.1⟩
    · rw [if_neg hj0]
      obtain ⟨k1, hk1, ek⟩ := hj hj0
      rw [ek]
      obtain ⟨c', m', g', a1, a2, a3, a4, a5⟩ := reach_ok hn hI hk1 hh1 (Rch_s hk hh hR hc ⟨hk1, hh1, eh, Or.inr ⟨hj0, ek⟩⟩)
      refine ⟨c', m', g', a1, a2, a3, a4, fun _ k' h' q => ?_⟩
      rw [hsame k' h' q]
      rcases q.2.2.2 with q2 | q2
      · exact absurd hx0 q2.1
      · rw [(nI_eq (by have := q.1; omega) (by omega)).mp (q2.2.symm.trans ek)]
        exact a5
  · rw [if_neg hx0, nI_1]
    have hk2 := hx hx0
    obtain ⟨c1, m1, g1, a1, a2, a3, a4, a5⟩ := reach_ok hn hI hk2 hh1 (Rch_s hk hh hR hc ⟨hk2, hh1, eh, Or.inl ⟨hx0, rfl⟩⟩)
    by_cases hj0 : o_jump (fo k) = 0
    · rw [if_pos hj0]
      refine ⟨c1, m1, g1, a1, a2, a3, a4, fun _ k' h' q => ?_⟩
      rw [hsame k' h' q]
      rcases q.2.2.2 with q2 | q2
      · rw [q2.2]; exact a5
      · exact absurd hj0 q2.1
    · rw [if_neg hj0]
      obtain ⟨k1, hk1, ek⟩ := hj hj0
      rw [ek]
      obtain ⟨c2, m2, g2, b1, b2, b3, b4, b5⟩ := reach_ok hn a1 hk1 hh1 (Rch_s hk hh hR hc ⟨hk1, hh1, eh, Or.inr ⟨hj0, ek⟩⟩)
      refine ⟨c2, m2, g2, b1, by omega, fun j hj => (b3 j (by omega)).trans (a3 j hj), fun a b q => b4 a b (a4 a b q), fun _ k' h' q => ?_⟩
      rw [hsame k' h' q]
      rcases q.2.2.2 with q2 | q2
      · rw [q2.2]; exact b4 _ _ a5
      · rw [(nI_eq (by have := q.1; omega) (by omega)).mp (q2.2.symm.trans ek)]
        exact b5
theorem loop_ok (hn : n ≤ 64) : ∀ (N i c : Nat) (m g : Nat → Nat) (u : WS), WI n (Rch kd ac n fo fn) c m g u → i ≤ c → i + N = 576 →
    (∀ j, j < i → cb kd ac n fo fn (g j / 9) (g j % 9) → ∀ k' h', nxt n fo fn (g j / 9) (g j % 9) k' h' → (m k').testBit h' = true) →
    ∃ (c' : Nat) (m' g' : Nat → Nat), WI n (Rch kd ac n fo fn) c' m' g' (w_loop kd (nI n) ac fo fn N (nI i) u) ∧ (∀ a b, (m a).testBit b = true → (m' a).testBit b = true) ∧
      (∀ j, j < c' → cb kd ac n fo fn (g' j / 9) (g' j % 9) → ∀ k' h', nxt n fo fn (g' j / 9) (g' j % 9) k' h' → (m' k').testBit h' = true)
  | 0, i, c, m, g, u, hI, hic, hiN, hp => by
    have hc : c ≤ 576 := by rw [hI.2.2.2.1]; exact cntB_le m
    exact ⟨c, m, g, hI, fun _ _ q => q, fun j hj => hp j (by omega)⟩
  | N + 1, i, c, m, g, u, hI, hic, hiN, hp => by
    have hc : c ≤ 576 := by rw [hI.2.2.2.1]; exact cntB_le m
    show ∃ (c' : Nat) (m' g' : Nat → Nat), WI n (Rch kd ac n fo fn) c' m' g' (if nI 576 ≤ nI i then u else if u.2.2 ≤ nI i then u else w_loop kd (nI n) ac fo fn N (nI i + 1) (w_goOn kd (nI n) ac fo fn (rd u.2.1 576 (nI i) / 9) (rd u.2.1 576 (nI i) - rd u.2.1 576 (nI i) / 9 * 9) u)) ∧ _
    rw [if_neg (by rw [nI_leI (by omega) (by omega)]; omega), hI.2.2.1]
    by_cases hd : nI c ≤ nI i
    · rw [if_pos hd]
      rw [nI_leI (by omega) (by omega)] at hd
      exact ⟨c, m, g, hI, fun _ _ q => q, fun j hj => hp j (by omega)⟩
    · rw [if_neg hd]
      rw [nI_leI (by omega) (by omega)] at hd
      obtain ⟨q1, q2, q3⟩ := hI.2.1 i (by omega)
      have er : rd u.2.1 576 (nI i) = nI (g i) := by rw [rd_in u.2.1 (by omega) (by omega)]; exact q1
      have e9 : nI (g i) / 9 = nI (g i / 9) := pk_div (d := 9) (by omega) (by omega) (by omega)
      have e8 : nI (g i) - nI (g i) / 9 * 9 = nI (g i % 9) := pk_rem (d := 9) (by omega) (by omega) (by omega)
      rw [er, e8, e9, nI_1]
      obtain ⟨c1, m1, g1, a1, a2, a3, a4, a5⟩ := goOn_ok hn hI (k := g i / 9) (h := g i % 9) (by omega) (by omega) q3
      obtain ⟨c2, m2, g2, b1, b2, b3⟩ := loop_ok hn N (i + 1) c1 m1 g1 _ a1 (by omega) (by omega) (fun j hj hcb k' h' hx => by
        by_cases hji : j = i
        · subst hji
          rw [a3 j (by omega)] at hcb hx
          exact a5 hcb k' h' hx
        · rw [a3 j (by omega)] at hcb hx
          exact a4 _ _ (hp j (by omega) hcb k' h' hx))
      exact ⟨c2, m2, g2, b1, fun a b q => b2 a b (a4 a b q), b3⟩
/-- behind follow: the bits of each row are the heights with which it can be reached -/
theorem follow_ok (hn : n ≤ 64) (h0 : 0 < n) (fw : Nat → Int32) : ∃ m : Nat → Nat, (∀ k, k < 64 → (w_follow kd (nI n) ac fo fn fw).1 k = nI (m k) ∧ m k < 512) ∧ ∀ k h, k < n → h < 9 → ((m k).testBit h = true ↔ Rch kd ac n fo fn k h) := by
  obtain ⟨c, m, g, a1, a2, a3, a4, a5⟩ := reach_ok hn (WI_0 n (Rch kd ac n fo fn) fw) (k := 0) (h := 0) h0 (by omega) Rch_0
  obtain ⟨c1, m1, g1, b1, b2, b3⟩ := loop_ok hn 576 0 c m g _ a1 (by omega) (by omega) (fun j hj => absurd hj (Nat.not_lt_zero j))
  refine ⟨m1, b1.1, fun k h hk hh => ⟨fun q => (b1.2.2.2.2 k h hk hh q).2, fun q => ?_⟩⟩
  have hS := q (fun k h => k < n ∧ h < 9 ∧ (m1 k).testBit h = true) ⟨h0, by omega, b2 _ _ a5⟩ (fun k h k' h' hk hh hs hcb hx => ⟨hx.1, hx.2.1, by
    obtain ⟨⟨j, hj, ej⟩, -⟩ := b1.2.2.2.2 k h hk hh hs.2.2
    have hj9 : g1 j / 9 = k := by omega
    have hj8 : g1 j % 9 = h := by omega
    exact b3 j hj (by rw [hj9, hj8]; exact hcb) k' h' (by rw [hj9, hj8]; exact hx)⟩)
  exact hS.2.2
end
end
section
/-! one step of the machine, in numbers -/
theorem nI_p1 (t : Nat) : nI (t + 1) - 1 = nI t := nI_pred t
theorem nI_p2 (t : Nat) : nI (t + 2) - 1 = nI (t + 1) := nI_pred (t + 1)
section
variable {res stp pcn ap kd n : Int32} {fk fv fa fl fs : Nat → Int32} {t j : Nat}
theorem one_0 (ht : t < 8) : m_one 0 n kd (res, stp, pcn, fk, fv, fa, fl, fs, nI t, ap) = (3, (res, stp, pcn, fk, fv, fa, fl, upd fs t n, nI (t + 1), ap + 1)) := by
  show (3, (res, stp, pcn, fk, fv, fa, fl, wr fs 8 (nI t) n, nI t + 1, ap + 1)) = _
  rw [wr_in fs ht (by omega), nI_1]
theorem one_1 (ht : t < 8) (hj : j < 3) : m_one 1 (nI j) kd (res, stp, pcn, fk, fv, fa, fl, fs, nI t, ap) = (3, (res, stp, pcn, fk, fv, fa, fl, upd fs t (fa j), nI (t + 1), ap + 1)) := by
  show (3, (res, stp, pcn, fk, fv, fa, fl, wr fs 8 (nI t) (rd fa 3 (nI j)), nI t + 1, ap + 1)) = _
  rw [wr_in fs ht (by omega), nI_1, rd_in fa hj (by omega)]
theorem one_2 (ht : t < 8) (hj : j < 4) : m_one 2 (nI j) kd (res, stp, pcn, fk, fv, fa, fl, fs, nI t, ap) = (3, (res, stp, pcn, fk, fv, fa, fl, upd fs t (fl j), nI (t + 1), ap + 1)) := by
  show (3, (res, stp, pcn, fk, fv, fa, fl, wr fs 8 (nI t) (rd fl 4 (nI j)), nI t + 1, ap + 1)) = _
  rw [wr_in fs ht (by omega), nI_1, rd_in fl hj (by omega)]
theorem one_3 (ht : t < 8) (hj : j < 4) : m_one 3 (nI j) kd (res, stp, pcn, fk, fv, fa, fl, fs, nI (t + 1), ap) = (3, (res, stp, pcn, fk, fv, fa, upd fl j (fs t), fs, nI t, ap + 1)) := by
  show (3, (res, stp, pcn, fk, fv, fa, wr fl 4 (nI j) (rd fs 8 (nI (t + 1) - 1)), fs, nI (t + 1) - 1, ap + 1)) = _
  rw [nI_p1, rd_in fs ht (by omega), wr_in fl hj (by omega)]
theorem upd_self (f : Nat → Int32) (k : Nat) : upd f k (f k) = f := by
  funext i
  unfold upd
  by_cases h : i = k
  · rw [if_pos h, h]
  · rw [if_neg h]
theorem upd_comm (f : Nat → Int32) {a b : Nat} (h : a ≠ b) (x y : Int32) : upd (upd f a x) b y = upd (upd f b y) a x := by
  funext i
  unfold upd
  by_cases h1 : i = a
  · by_cases h2 : i = b
    · omega
    · rw [if_neg h2, if_pos h1, if_pos h1]
  · by_cases h2 : i = b
    · rw [if_pos h2, if_neg h1, if_pos h2]
    · rw [if_neg h2, if_neg h1, if_neg h1, if_neg h2]
theorem one_4 (ht : t + 1 < 8) : m_one 4 n kd (res, stp, pcn, fk, fv, fa, fl, fs, nI (t + 1), ap) = (3, (res, stp, pcn, fk, fv, fa, fl, upd fs (t + 1) (fs t), nI (t + 2), ap + 1)) := by
  show (3, (res, stp, pcn, fk, fv, fa, fl, wr (wr fs 8 (nI (t + 1) - 1) (rd fs 8 (nI (t + 1) - 1))) 8 (nI (t + 1) - 1 + 1) (rd fs 8 (nI (t + 1) - 1)), nI (t + 1) - 1 + 1 + 1, ap + 1)) = _
  rw [nI_p1, rd_in fs (by omega) (by omega), nI_1, wr_in fs (by omega) (by omega), upd_self, wr_in fs ht (by omega), nI_1]
theorem one_5 (ht : t + 1 < 8) : m_one 5 n kd (res, stp, pcn, fk, fv, fa, fl, fs, nI (t + 2), ap) = (3, (res, stp, pcn, fk, fv, fa, fl, upd (upd fs (t + 1) (fs t)) t (fs (t + 1)), nI (t + 2), ap + 1)) := by
  show (3, (res, stp, pcn, fk, fv, fa, fl, wr (wr fs 8 (nI (t + 2) - 1 - 1) (rd fs 8 (nI (t + 2) - 1))) 8 (nI (t + 2) - 1 - 1 + 1) (rd fs 8 (nI (t + 2) - 1 - 1)), nI (t + 2) - 1 - 1 + 1 + 1, ap + 1)) = _
  rw [nI_p2, nI_p1, rd_in fs ht (by omega), rd_in fs (j := t) (by omega) (by omega), nI_1, wr_in fs (j := t) (by omega) (by omega), wr_in _ ht (by omega), nI_1, upd_comm fs (by omega)]
theorem one_6 : m_one 6 n kd (res, stp, pcn, fk, fv, fa, fl, fs, nI (t + 1), ap) = (3, (res, stp, pcn, fk, fv, fa, fl, fs, nI t, ap + 1)) := by
  show (3, (res, stp, pcn, fk, fv, fa, fl, fs, nI (t + 1) - 1, ap + 1)) = _
  rw [nI_p1]
theorem one_c (ht : t + 1 < 8) {o : Nat} (h7 : 7 ≤ o) (h13 : o ≤ 13) : m_one (nI o) n kd (res, stp, pcn, fk, fv, fa, fl, fs, nI (t + 2), ap) = (3, (res, stp, pcn, fk, fv, fa, fl, upd fs t (m_comb (nI o) (fs t) (fs (t + 1))), nI (t + 1), ap + 1)) := by
  have e : m_one (nI o) n kd (res, stp, pcn, fk, fv, fa, fl, fs, nI (t + 2), ap) = (3, (res, stp, pcn, fk, fv, fa, fl, wr fs 8 (nI (t + 2) - 1 - 1) (m_comb (nI o) (rd fs 8 (nI (t + 2) - 1 - 1)) (rd fs 8 (nI (t + 2) - 1))), nI (t + 2) - 1 - 1 + 1, ap + 1)) := by
    rcases (by omega : o = 7 ∨ o = 8 ∨ o = 9 ∨ o = 10 ∨ o = 11 ∨ o = 12 ∨ o = 13) with rfl | rfl | rfl | rfl | rfl | rfl | rfl <;> rfl
  rw [e, nI_p2, nI_p1, rd_in fs ht (by omega), rd_in fs (j := t) (by omega) (by omega), wr_in fs (j := t) (by omega) (by omega), nI_1]
theorem one_14 : m_one 14 n kd (res, stp, pcn, fk, fv, fa, fl, fs, nI t, ap) = (3, (res, stp, pcn, fk, fv, fa, fl, fs, nI t, n)) := rfl
theorem one_15 (ht : t < 8) : m_one 15 n kd (res, stp, pcn, fk, fv, fa, fl, fs, nI (t + 1), ap) = (3, (res, stp, pcn, fk, fv, fa, fl, fs, nI t, if fs t = 0 then n else ap + 1)) := by
  show (if rd fs 8 (nI (t + 1) - 1) = 0 then (3, (res, stp, pcn, fk, fv, fa, fl, fs, nI (t + 1) - 1, n)) else (3, (res, stp, pcn, fk, fv, fa, fl, fs, nI (t + 1) - 1, ap + 1))) = _
  rw [nI_p1, rd_in fs ht (by omega)]
  by_cases h : fs t = 0
  · rw [if_pos h, if_pos h]
  · rw [if_neg h, if_neg h]
theorem one_16 (ht : t + 1 < 8) {p : Nat} (hp : p < 20) : m_one 16 n kd (res, stp, nI p, fk, fv, fa, fl, fs, nI (t + 2), ap) = (3, (res, stp, nI (p + 1), upd fk p (fs t), upd fv p (fs (t + 1)), fa, fl, fs, nI t, ap + 1)) := by
  show (if nI p < 20 then (3, (res, stp, nI p + 1, wr fk 20 (nI p) (rd fs 8 (nI (t + 2) - 1 - 1)), wr fv 20 (nI p) (rd fs 8 (nI (t + 2) - 1)), fa, fl, fs, nI (t + 2) - 1 - 1, ap + 1)) else (2, (res, stp, nI p, fk, fv, fa, fl, fs, nI (t + 2), ap + 1))) = _
  rw [if_pos (show nI p < (20 : Int32) from nI_lt (b := 20) hp (by omega)), nI_p2, nI_p1, rd_in fs ht (by omega), rd_in fs (j := t) (by omega) (by omega), wr_in fk hp (by omega), wr_in fv hp (by omega), nI_1]
theorem one_16f : m_one 16 n kd (res, stp, nI 20, fk, fv, fa, fl, fs, nI t, ap) = (2, (res, stp, nI 20, fk, fv, fa, fl, fs, nI t, ap + 1)) := rfl
theorem one_17z : m_one 17 n 0 (res, stp, pcn, fk, fv, fa, fl, fs, nI t, ap) = (0, (0, stp, pcn, fk, fv, fa, fl, fs, nI t, ap + 1)) := rfl
theorem one_17 (hk : ¬ kd = 0) (ht : t < 8) : m_one 17 n kd (res, stp, pcn, fk, fv, fa, fl, fs, nI (t + 1), ap) = (0, (fs t, stp, pcn, fk, fv, fa, fl, fs, nI t, ap + 1)) := by
  show (if kd = 0 then (0, (0, stp, pcn, fk, fv, fa, fl, fs, nI (t + 1), ap + 1)) else (0, (rd fs 8 (nI (t + 1) - 1), stp, pcn, fk, fv, fa, fl, fs, nI (t + 1) - 1, ap + 1))) = _
  rw [if_neg hk, nI_p1, rd_in fs ht (by omega)]
theorem one_18 : m_one 18 n kd (res, stp, pcn, fk, fv, fa, fl, fs, nI t, ap) = (1, (res, stp, pcn, fk, fv, fa, fl, fs, nI t, ap + 1)) := rfl
end
section
variable {res stp pcn hgt ap kd n : Int32} {fk fv fa fl fs : Nat → Int32}
theorem m1_15 : m_one 15 n kd (res, stp, pcn, fk, fv, fa, fl, fs, hgt, ap) = if rd fs 8 (hgt - 1) = 0 then (3, (res, stp, pcn, fk, fv, fa, fl, fs, hgt - 1, n)) else (3, (res, stp, pcn, fk, fv, fa, fl, fs, hgt - 1, ap + 1)) := rfl
theorem m1_17 : m_one 17 n kd (res, stp, pcn, fk, fv, fa, fl, fs, hgt, ap) = if kd = 0 then (0, (0, stp, pcn, fk, fv, fa, fl, fs, hgt, ap + 1)) else (0, (rd fs 8 (hgt - 1), stp, pcn, fk, fv, fa, fl, fs, hgt - 1, ap + 1)) := rfl
end
end
section
/-! the reference's small methods, as their branches go, and that they say the same as the class's -/
def acOf (kd : Int32) : Int32 := if kd = 1 then 3 else if kd = 2 then 3 else 2
def v_b14 (sz o nn : Int32) : Int32 := if o = 14 then (if nn < 0 then 1 else if nn < sz then 0 else 1) else if o = 15 then (if nn < 0 then 1 else if nn < sz then 0 else 1) else 0
def v_b2 (sz o nn : Int32) : Int32 := if o = 2 then (if nn < 0 then 1 else if nn ≤ 3 then 0 else 1) else if o = 3 then (if nn < 0 then 1 else if nn ≤ 3 then 0 else 1) else v_b14 sz o nn
def v_b1 (kd sz o nn : Int32) : Int32 := if o = 1 then (if nn < 0 then 1 else if 2 < nn then 1 else if nn = 2 then (if kd = 0 then 1 else if kd = 3 then 1 else 0) else 0) else v_b2 sz o nn
def v_b18 (kd sz o nn : Int32) : Int32 := if o = 18 then (if kd = 3 then v_b1 kd sz o nn else 1) else v_b1 kd sz o nn
def v_bad (kd sz o nn : Int32) : Int32 := if o < 0 then 1 else if 18 < o then 1 else if o = 16 then (if kd = 0 then v_b18 kd sz o nn else 1) else v_b18 kd sz o nn
def v_n3 (kd o : Int32) : Int32 := if o = 3 then 1 else if o = 4 then 1 else if o = 6 then 1 else if o = 15 then 1 else if o = 17 then (if kd = 0 then 0 else 1) else 0
def v_needs (kd o : Int32) : Int32 := if o = 5 then 2 else if o < 7 then (if o = 16 then 2 else v_n3 kd o) else if o ≤ 13 then 2 else if o = 16 then 2 else v_n3 kd o
def v_g15 (o : Int32) : Int32 := if o = 15 then -1 else if o = 16 then -2 else 0
def v_grow (o : Int32) : Int32 := if o ≤ 2 then 1 else if o = 4 then 1 else if o = 3 then -1 else if o = 6 then -1 else if o < 7 then v_g15 o else if o ≤ 13 then -1 else v_g15 o
theorem grow_eq : ∀ o, o < 19 → v_grow (nI o) = o_grow (nI o) := by decide +kernel
theorem needs_0 : ∀ o, o < 19 → v_needs 0 (nI o) = o_needs (nI o) 0 := by decide +kernel
theorem needs_1 : ∀ o, o < 19 → v_needs 1 (nI o) = o_needs (nI o) 1 := by decide +kernel
theorem needs_eq (kd : Int32) {o : Nat} (ho : o < 19) : v_needs kd (nI o) = o_needs (nI o) kd := by
  by_cases hk : kd = 0
  · subst hk; exact needs_0 o ho
  · have e1 : v_needs kd (nI o) = v_needs 1 (nI o) := by
      unfold v_needs v_n3
      rw [if_neg hk, if_neg (show ¬ (1 : Int32) = 0 by decide)]
    have e2 : o_needs (nI o) kd = o_needs (nI o) 1 := by
      unfold o_needs
      rw [if_neg hk, if_neg (show ¬ (1 : Int32) = 0 by decide)]
    rw [e1, e2, needs_1 o ho]
def wfb (kd sz ac o nn : Int32) : Int32 := if o_isOf o kd = 0 then 0 else if p_lim ac sz o = -1 then 1 else if nn < 0 then 0 else if p_lim ac sz o ≤ nn then 0 else 1
theorem i32_3 (x : Int32) : (3 : Int32) ≤ x ↔ 2 < x := by
  rw [Int32.le_iff_toInt_le, Int32.lt_iff_toInt_lt, show (3 : Int32).toInt = 3 by decide, show (2 : Int32).toInt = 2 by decide]
  omega
theorem i32_4 (x : Int32) : (4 : Int32) ≤ x ↔ ¬ x ≤ 3 := by
  rw [Int32.le_iff_toInt_le, Int32.le_iff_toInt_le, show (3 : Int32).toInt = 3 by decide, show (4 : Int32).toInt = 4 by decide]
  omega
theorem i32_2 (x : Int32) : (2 : Int32) ≤ x ↔ (2 < x ∨ x = 2) := by
  rw [Int32.le_iff_toInt_le, Int32.lt_iff_toInt_lt, ← Int32.toInt_inj, show (2 : Int32).toInt = 2 by decide]
  omega
theorem bad_wf {kd sz o nn : Int32} (hk : kd = 0 ∨ kd = 1 ∨ kd = 2 ∨ kd = 3) (hs : ¬ sz = -1) : v_bad kd sz o nn = 0 ↔ ¬ wfb kd sz (acOf kd) o nn = 0 := by
  by_cases h0 : o < 0
  · have h1 : v_bad kd sz o nn = 1 := by unfold v_bad; rw [if_pos h0]
    have h2 : o_isOf o kd = 0 := by
      unfold o_isOf
      rw [if_neg (fun e => by subst e; exact absurd h0 (by decide)), if_neg (fun e => by subst e; exact absurd h0 (by decide)), if_pos h0]
    rw [h1]
    unfold wfb
    rw [if_pos h2]
    decide
  by_cases h18 : 18 < o
  · have h1 : v_bad kd sz o nn = 1 := by unfold v_bad; rw [if_neg h0, if_pos h18]
    have h2 : o_isOf o kd = 0 := by
      unfold o_isOf
      rw [if_neg (fun e => by subst e; exact absurd h18 (by decide)), if_neg (fun e => by subst e; exact absurd h18 (by decide)), if_neg h0, if_pos (Int32.lt_trans (by decide) h18)]
    rw [h1]
    unfold wfb
    rw [if_pos h2]
    decide
  obtain ⟨j, hj, rfl⟩ := nI_of2 (M := 18) (n := 18) (by decide) h0 (Int32.not_lt.mp h18)
  have hJ : ∀ z : Int32, (if nn < 0 then (1 : Int32) else if nn < sz then 0 else 1) = 0 ↔ ¬ (if sz = -1 then (1 : Int32) else if nn < 0 then 0 else if sz ≤ nn then 0 else 1) = 0 := fun _ => by
    rw [if_neg hs]
    by_cases a : nn < 0
    · rw [if_pos a, if_pos a]; decide
    · rw [if_neg a, if_neg a]
      by_cases b : nn < sz
      · rw [if_pos b, if_neg (Int32.not_le.mpr b)]; decide
      · rw [if_neg b, if_pos (Int32.not_lt.mp b)]; decide
  have hL : (if nn < 0 then (1 : Int32) else if nn ≤ 3 then 0 else 1) = 0 ↔ ¬ (if nn < 0 then (0 : Int32) else if (4 : Int32) ≤ nn then 0 else 1) = 0 := by
    by_cases a : nn < 0
    · rw [if_pos a, if_pos a]; decide
    · rw [if_neg a, if_neg a]
      by_cases b : nn ≤ 3
      · rw [if_pos b, if_neg (fun q => (i32_4 nn).mp q b)]; decide
      · rw [if_neg b, if_pos ((i32_4 nn).mpr b)]; decide
  have hA3 : (if nn < 0 then (1 : Int32) else if 2 < nn then 1 else if nn = 2 then 0 else 0) = 0 ↔ ¬ (if nn < 0 then (0 : Int32) else if (3 : Int32) ≤ nn then 0 else 1) = 0 := by
    by_cases a : nn < 0
    · rw [if_pos a, if_pos a]; decide
    · rw [if_neg a, if_neg a]
      by_cases b : 2 < nn
      · rw [if_pos b, if_pos ((i32_3 nn).mpr b)]; decide
      · rw [if_neg b, if_neg (fun q => b ((i32_3 nn).mp q)), ite_self]; decide
  have hA2 : (if nn < 0 then (1 : Int32) else if 2 < nn then 1 else if nn = 2 then 1 else 0) = 0 ↔ ¬ (if nn < 0 then (0 : Int32) else if (2 : Int32) ≤ nn then 0 else 1) = 0 := by
    by_cases a : nn < 0
    · rw [if_pos a, if_pos a]; decide
    · rw [if_neg a, if_neg a]
      by_cases b : 2 < nn
      · rw [if_pos b, if_pos ((i32_2 nn).mpr (Or.inl b))]; decide
      · rw [if_neg b]
        by_cases c : nn = 2
        · rw [if_pos c, if_pos ((i32_2 nn).mpr (Or.inr c))]; decide
        · rw [if_neg c, if_neg (fun q => ((i32_2 nn).mp q).elim b c)]; decide
  rcases (by omega : j = 1 ∨ j = 2 ∨ j = 3 ∨ j = 14 ∨ j = 15 ∨ j = 16 ∨ j = 18 ∨ (j = 0 ∨ j = 4 ∨ j = 5 ∨ j = 6 ∨ j = 7 ∨ j = 8 ∨ j = 9 ∨ j = 10 ∨ j = 11 ∨ j = 12 ∨ j = 13 ∨ j = 17)) with rfl | rfl | rfl | rfl | rfl | rfl | rfl | h
  · rcases hk with rfl | rfl | rfl | rfl
    · exact hA2
    · exact hA3
    · exact hA3
    · exact hA2
  · exact hL
  · exact hL
  · exact hJ 0
  · exact hJ 0
  · rcases hk with rfl | rfl | rfl | rfl
    · exact ⟨fun _ q => absurd q (by decide : ¬ (1 : Int32) = 0), fun _ => rfl⟩
    · exact ⟨fun q => absurd q (by decide : ¬ (1 : Int32) = 0), fun q => absurd (rfl : (0 : Int32) = 0) q⟩
    · exact ⟨fun q => absurd q (by decide : ¬ (1 : Int32) = 0), fun q => absurd (rfl : (0 : Int32) = 0) q⟩
    · exact ⟨fun q => absurd q (by decide : ¬ (1 : Int32) = 0), fun q => absurd (rfl : (0 : Int32) = 0) q⟩
  · rcases hk with rfl | rfl | rfl | rfl
    · exact ⟨fun q => absurd q (by decide : ¬ (1 : Int32) = 0), fun q => absurd (rfl : (0 : Int32) = 0) q⟩
    · exact ⟨fun q => absurd q (by decide : ¬ (1 : Int32) = 0), fun q => absurd (rfl : (0 : Int32) = 0) q⟩
    · exact ⟨fun q => absurd q (by decide : ¬ (1 : Int32) = 0), fun q => absurd (rfl : (0 : Int32) = 0) q⟩
    · exact ⟨fun _ q => absurd q (by decide : ¬ (1 : Int32) = 0), fun _ => rfl⟩
  · rcases h with rfl | rfl | rfl | rfl | rfl | rfl | rfl | rfl | rfl | rfl | rfl | rfl <;> exact ⟨fun _ q => absurd q (by decide : ¬ (1 : Int32) = 0), fun _ => rfl⟩
theorem wf_wfb {kd sz ac : Int32} {fo fn : Nat → Int32} {a : Nat} (ha : a < 64) : p_wf kd sz ac fo fn (nI a) = wfb kd sz ac (fo a) (fn a) := by
  unfold p_wf wfb
  rw [rd_in fo ha (by omega), rd_in fn ha (by omega)]
end
section
/-! the reference's sweeps, in numbers -/
def v_rch (fR : Nat → Int32) (k h : Nat) : Nat → Int32 := if fR (9 * k + h) = 0 then upd fR (9 * k + h) 1 else fR
def v_opt (z : Int32) (k h : Nat) (fR : Nat → Int32) : Nat → Int32 := if z = 0 then fR else v_rch fR k h
section
variable (kd ac : Int32) (n : Nat) (fo fn : Nat → Int32)
/-- what goOn(a, b) does to the marks and to what is wrong -/
def GoR (a b : Nat) (fR fW : Nat → Int32) (u : (Nat → Int32) × (Nat → Int32)) : Prop :=
  (p_wf kd (nI n) ac fo fn (nI a) = 0 ∧ u = (fR, fW)) ∨
  (¬ p_wf kd (nI n) ac fo fn (nI a) = 0 ∧ ¬ cb kd ac n fo fn a b ∧ u = (fR, upd fW a 1)) ∨
  (cb kd ac n fo fn a b ∧ ∃ h1 k1 : Nat, h1 < 9 ∧ nI b + o_grow (fo a) = nI h1 ∧ (¬ o_jump (fo a) = 0 → k1 < n ∧ fn a = nI k1) ∧ u = (v_opt (o_jump (fo a)) k1 h1 (v_opt (o_next (fo a)) (a + 1) h1 fR), fW))
/-- WRONG for a reason that isn't two heights -/
def BW (i : Nat) : Prop := p_wf kd (nI n) ac fo fn (nI i) = 0 ∨ ∃ h, h < 9 ∧ Rch kd ac n fo fn i h ∧ ¬ cb kd ac n fo fn i h
def PrE (r : Nat → Nat) (fW : Nat → Int32) (e : Nat) : Prop := (¬ cb kd ac n fo fn (e / 9) (e % 9) → fW (e / 9) = 1) ∧ (cb kd ac n fo fn (e / 9) (e % 9) → ∀ k' h', nxt n fo fn (e / 9) (e % 9) k' h' → ¬ r (9 * k' + h') = 0)
def RI (X : Nat → Prop) (r : Nat → Nat) (fR fW : Nat → Int32) : Prop :=
  (∀ e, e < 576 → fR e = nI (r e) ∧ r e ≤ 2) ∧ (∀ e, e < 9 * n → ¬ r e = 0 → Rch kd ac n fo fn (e / 9) (e % 9)) ∧ (∀ i, i < n → fW i = 0 ∨ fW i = 1) ∧ (∀ i, i < n → fW i = 1 → BW kd ac n fo fn i) ∧
  (∀ i, i < n → p_wf kd (nI n) ac fo fn (nI i) = 0 → fW i = 1) ∧ (∀ e, e < 9 * n → r e = 2 → ¬ X e → PrE kd ac n fo fn r fW e) ∧ (0 < n → ¬ r 0 = 0)
def FillR (fR fW : Nat → Int32) : Prop := (∀ k h, k < n → h < 9 → (¬ fR (9 * k + h) = 0 ↔ Rch kd ac n fo fn k h)) ∧ (∀ i, i < n → fW i = 0 ∨ fW i = 1) ∧ (∀ i, i < n → (fW i = 1 ↔ BW kd ac n fo fn i))
end
def upN (r : Nat → Nat) (k x : Nat) : Nat → Nat := fun j => if j = k then x else r j
def rchN (r : Nat → Nat) (k h : Nat) : Nat → Nat := if r (9 * k + h) = 0 then upN r (9 * k + h) 1 else r
def optN (z : Int32) (k h : Nat) (r : Nat → Nat) : Nat → Nat := if z = 0 then r else rchN r k h
theorem rchN_2 (r : Nat → Nat) (k h e : Nat) : rchN r k h e = 2 ↔ r e = 2 := by
  unfold rchN upN
  by_cases h0 : r (9 * k + h) = 0
  · rw [if_pos h0]
    by_cases he : e = 9 * k + h
    · subst he; simp [h0]
    · simp [he]
  · rw [if_neg h0]
theorem rchN_0 (r : Nat → Nat) (k h e : Nat) (he : ¬ r e = 0) : ¬ rchN r k h e = 0 := by
  unfold rchN upN
  by_cases h0 : r (9 * k + h) = 0
  · rw [if_pos h0]
    by_cases h1 : e = 9 * k + h
    · simp [h1]
    · simp [h1, he]
  · rw [if_neg h0]; exact he
theorem rchN_at (r : Nat → Nat) (k h : Nat) : ¬ rchN r k h (9 * k + h) = 0 := by
  unfold rchN upN
  by_cases h0 : r (9 * k + h) = 0
  · simp [h0]
  · rw [if_neg h0]; exact h0
theorem rchN_new (r : Nat → Nat) (k h e : Nat) (he : ¬ rchN r k h e = 0) : ¬ r e = 0 ∨ e = 9 * k + h := by
  unfold rchN upN at he
  by_cases h0 : r (9 * k + h) = 0
  · rw [if_pos h0] at he
    by_cases h1 : e = 9 * k + h
    · exact Or.inr h1
    · simp [h1] at he; exact Or.inl he
  · rw [if_neg h0] at he; exact Or.inl he
theorem rch_eq {r : Nat → Nat} {fR : Nat → Int32} (hr : ∀ e, e < 576 → fR e = nI (r e) ∧ r e ≤ 2) {k h : Nat} (hk : 9 * k + h < 576) : ∀ e, e < 576 → v_rch fR k h e = nI (rchN r k h e) ∧ rchN r k h e ≤ 2 := by
  intro e he
  unfold v_rch rchN
  have h1 := hr _ hk
  by_cases h0 : r (9 * k + h) = 0
  · rw [if_pos h0, if_pos (by rw [h1.1, h0]; rfl)]
    unfold upd upN
    by_cases h2 : e = 9 * k + h
    · rw [if_pos h2, if_pos h2]; exact ⟨rfl, by omega⟩
    · rw [if_neg h2, if_neg h2]; exact hr e he
  · rw [if_neg h0, if_neg (by rw [h1.1]; exact fun q => h0 ((nI_eq (by omega) (by omega)).mp (q : nI (r (9 * k + h)) = nI 0)))]
    exact hr e he
section
variable {kd ac : Int32} {n : Nat} {fo fn : Nat → Int32}
theorem go_ok (hn : n ≤ 64) {a b : Nat} {r : Nat → Nat} {fR fW : Nat → Int32} {u : (Nat → Int32) × (Nat → Int32)} (ha : a < n) (hb : b < 9) (hR : Rch kd ac n fo fn a b) (hI : RI kd ac n fo fn (fun e => e = 9 * a + b) r fR fW) (hG : GoR kd ac n fo fn a b fR fW u) :
    ∃ r' : Nat → Nat, RI kd ac n fo fn (fun _ => False) r' u.1 u.2 ∧ ∀ e, (r' e = 2 ↔ r e = 2) := by
  obtain ⟨i1, i2, i3, i4, i5, i6, i7⟩ := hI
  have d9 : (9 * a + b) / 9 = a := by omega
  have m9 : (9 * a + b) % 9 = b := by omega
  rcases hG with ⟨g1, rfl⟩ | ⟨g1, g2, rfl⟩ | ⟨g1, h1, k1, hh1, eh, hj, rfl⟩
  · refine ⟨r, ⟨i1, i2, i3, i4, i5, fun e he h2 _ => ?_, i7⟩, fun _ => Iff.rfl⟩
    by_cases hx : e = 9 * a + b
    · subst hx
      refine ⟨fun _ => by rw [d9]; exact i5 a ha g1, fun hc => ?_⟩
      rw [d9, m9] at hc
      exact absurd g1 (cb_facts hn ha hb hc).1
    · exact i6 e he h2 hx
  · refine ⟨r, ⟨i1, i2, fun i hi => ?_, fun i hi h => ?_, fun i hi h => ?_, fun e he h2 _ => ?_, i7⟩, fun _ => Iff.rfl⟩
    · show upd fW a 1 i = 0 ∨ upd fW a 1 i = 1
      unfold upd
      by_cases e : i = a
      · rw [if_pos e]; exact Or.inr rfl
      · rw [if_neg e]; exact i3 i hi
    · by_cases e : i = a
      · subst e; exact Or.inr ⟨b, hb, hR, g2⟩
      · have h' : upd fW a 1 i = 1 := h
        unfold upd at h'
        rw [if_neg e] at h'
        exact i4 i hi h'
    · show upd fW a 1 i = 1
      unfold upd
      by_cases e : i = a
      · rw [if_pos e]
      · rw [if_neg e]; exact i5 i hi h
    · have hw : ∀ i, fW i = 1 → upd fW a 1 i = 1 := fun i h => by
        unfold upd
        by_cases e : i = a
        · rw [if_pos e]
        · rw [if_neg e]; exact h
      by_cases hx : e = 9 * a + b
      · subst hx
        refine ⟨fun _ => by rw [d9]; show upd fW a 1 a = 1; unfold upd; rw [if_pos rfl], fun hc => ?_⟩
        rw [d9, m9] at hc
        exact absurd hc g2
      · have h6 := i6 e he h2 hx
        exact ⟨fun q => hw _ (h6.1 q), h6.2⟩
  · obtain ⟨-, -, hx, -⟩ := cb_facts hn ha hb g1
    have key : ∀ (z : Int32) (k : Nat) (q : Nat → Nat) (f : Nat → Int32), (¬ z = 0 → k < n ∧ Rch kd ac n fo fn k h1) → (∀ e, e < 576 → f e = nI (q e) ∧ q e ≤ 2) → (∀ e, e < 9 * n → ¬ q e = 0 → Rch kd ac n fo fn (e / 9) (e % 9)) →
        (∀ e, e < 576 → v_opt z k h1 f e = nI (optN z k h1 q e) ∧ optN z k h1 q e ≤ 2) ∧ (∀ e, e < 9 * n → ¬ optN z k h1 q e = 0 → Rch kd ac n fo fn (e / 9) (e % 9)) ∧ (∀ e, optN z k h1 q e = 2 ↔ q e = 2) ∧ (∀ e, ¬ q e = 0 → ¬ optN z k h1 q e = 0) ∧ (¬ z = 0 → ¬ optN z k h1 q (9 * k + h1) = 0) := by
      intro z k q f hz q1 q2
      unfold v_opt optN
      by_cases z0 : z = 0
      · rw [if_pos z0, if_pos z0]
        exact ⟨q1, q2, fun _ => Iff.rfl, fun _ h => h, fun h => absurd z0 h⟩
      · rw [if_neg z0, if_neg z0]
        obtain ⟨hk, hr⟩ := hz z0
        refine ⟨rch_eq q1 (by omega), fun e he h => ?_, rchN_2 q k h1, rchN_0 q k h1, fun _ => rchN_at q k h1⟩
        rcases rchN_new q k h1 e h with h | h
        · exact q2 e he h
        · rw [h, show (9 * k + h1) / 9 = k by omega, show (9 * k + h1) % 9 = h1 by omega]
          exact hr
    have hN : ¬ o_next (fo a) = 0 → a + 1 < n ∧ Rch kd ac n fo fn (a + 1) h1 := fun z => ⟨hx z, Rch_s ha hb hR g1 ⟨hx z, hh1, eh, Or.inl ⟨z, rfl⟩⟩⟩
    have hJ : ¬ o_jump (fo a) = 0 → k1 < n ∧ Rch kd ac n fo fn k1 h1 := fun z => ⟨(hj z).1, Rch_s ha hb hR g1 ⟨(hj z).1, hh1, eh, Or.inr ⟨z, (hj z).2⟩⟩⟩
    obtain ⟨a1, a2, a3, a4, a5⟩ := key (o_next (fo a)) (a + 1) r fR hN i1 i2
    obtain ⟨b1, b2, b3, b4, b5⟩ := key (o_jump (fo a)) k1 _ _ hJ a1 a2
    refine ⟨_, ⟨b1, b2, i3, i4, i5, fun e he h2 _ => ?_, fun h => b4 _ (a4 _ (i7 h))⟩, fun e => (b3 e).trans (a3 e)⟩
    have h2' : r e = 2 := (a3 e).mp ((b3 e).mp h2)
    by_cases hxe : e = 9 * a + b
    · subst hxe
      rw [show PrE kd ac n fo fn _ _ _ ↔ _ from Iff.rfl]
      refine ⟨fun hc => ?_, fun _ k' h' hx' => ?_⟩
      · rw [d9, m9] at hc; exact absurd g1 hc
      · rw [d9, m9] at hx'
        have hh : h' = h1 := ((nI_eq (by omega) (by have := hx'.2.1; omega)).mp (eh.symm.trans hx'.2.2.1)).symm
        subst hh
        rcases hx'.2.2.2 with q | q
        · rw [q.2]; exact b4 _ (a5 q.1)
        · have hk : k' = k1 := (nI_eq (by have := hx'.1; omega) (by have := (hj q.1).1; omega)).mp (q.2.symm.trans (hj q.1).2)
          subst hk
          exact b5 q.1
    · have h6 := i6 e he h2' hxe
      exact ⟨h6.1, fun hc k' h' hx' => b4 _ (a4 _ (h6.2 hc k' h' hx'))⟩
theorem fill_ok (h0 : 0 < n) {r : Nat → Nat} {fR fW : Nat → Int32} (hn : n ≤ 64) (hI : RI kd ac n fo fn (fun _ => False) r fR fW) (h1 : ∀ e, e < 9 * n → ¬ r e = 1) : FillR kd ac n fo fn fR fW := by
  obtain ⟨i1, i2, i3, i4, i5, i6, i7⟩ := hI
  have hz : ∀ k h, k < n → h < 9 → (¬ fR (9 * k + h) = 0 ↔ ¬ r (9 * k + h) = 0) := fun k h hk hh => by
    rw [(i1 (9 * k + h) (by omega)).1]
    have h2 := (i1 (9 * k + h) (by omega)).2
    exact ⟨fun q z => q (by rw [z]; rfl), fun q z => q ((nI_eq (by omega) (by omega)).mp (z : nI (r (9 * k + h)) = nI 0))⟩
  have hall : ∀ e, e < 9 * n → ¬ r e = 0 → PrE kd ac n fo fn r fW e := fun e he h => i6 e he (by
    have h2 := (i1 e (by omega)).2
    have h3 := h1 e he
    omega) (fun q => q)
  have hrch : ∀ k h, k < n → h < 9 → (¬ r (9 * k + h) = 0 ↔ Rch kd ac n fo fn k h) := fun k h hk hh => by
    refine ⟨fun q => ?_, fun q => ?_⟩
    · have h3 := i2 (9 * k + h) (by omega) q
      rwa [show (9 * k + h) / 9 = k by omega, show (9 * k + h) % 9 = h by omega] at h3
    · have hS := q (fun k h => k < n ∧ h < 9 ∧ ¬ r (9 * k + h) = 0) ⟨h0, by omega, i7 h0⟩ (fun k h k' h' hk hh hs hcb hx => ⟨hx.1, hx.2.1, by
        have h4 := (hall (9 * k + h) (by omega) hs.2.2).2
        rw [show (9 * k + h) / 9 = k by omega, show (9 * k + h) % 9 = h by omega] at h4
        exact h4 hcb k' h' hx⟩)
      exact hS.2.2
  refine ⟨fun k h hk hh => (hz k h hk hh).trans (hrch k h hk hh), i3, fun i hi => ⟨i4 i hi, fun hb => ?_⟩⟩
  rcases hb with hb | ⟨h, hh, hr, hc⟩
  · exact i5 i hi hb
  · have h4 := (hall (9 * i + h) (by omega) ((hrch i h hi hh).mpr hr)).1
    rw [show (9 * i + h) / 9 = i by omega, show (9 * i + h) % 9 = h by omega] at h4
    exact h4 hc
end
def cnt2 (r : Nat → Nat) : Nat := (List.range 576).countP (fun e => decide (r e = 2))
theorem cnt2_le (r : Nat → Nat) : cnt2 r ≤ 576 := by
  have h := List.countP_le_length (p := fun e => decide (r e = 2)) (l := List.range 576)
  rwa [List.length_range] at h
theorem cnt2_up {r : Nat → Nat} {k : Nat} (hk : k < 576) (h : ¬ r k = 2) : cnt2 (upN r k 2) = cnt2 r + 1 := by
  unfold cnt2
  have e := cnt_add (fun e => decide (r e = 2)) (fun e => decide (upN r k 2 e = 2)) k (by simp [h]) (fun e => by
    unfold upN
    by_cases q : e = k
    · simp [q]
    · simp [q]) 576
  rw [e, if_pos hk]
theorem cnt2_congr {r r' : Nat → Nat} (h : ∀ e, r' e = 2 ↔ r e = 2) : cnt2 r' = cnt2 r := by
  unfold cnt2
  congr 1
  funext e
  exact decide_eq_decide.mpr (h e)
end
section
/-! more of the reference, in numbers -/
theorem ix9 (a b : Nat) : 9 * nI a + nI b = nI (9 * a + b) := by rw [show (9 : Int32) = nI 9 from rfl, pk_mul, nI_add]
theorem mul9 (n : Nat) : 9 * nI n = nI (9 * n) := by rw [show (9 : Int32) = nI 9 from rfl, pk_mul]
theorem div9 {j : Nat} (h : j < 2 ^ 31) : nI j / 9 = nI (j / 9) := pk_div (d := 9) h (by omega) (by omega)
theorem rem9 {j : Nat} (h : j < 2 ^ 31) : nI j - nI j / 9 * 9 = nI (j % 9) := pk_rem (d := 9) h (by omega) (by omega)
theorem nar01 {x : Int32} (h : x = 0 ∨ x = 1) : vp_nar .boolean x = x := by
  rcases h with rfl | rfl <;> rfl
theorem i01 {c : Prop} [Decidable c] {x y : Int32} (hx : x = 0 ∨ x = 1) (hy : y = 0 ∨ y = 1) : (if c then x else y) = 0 ∨ (if c then x else y) = 1 := by
  by_cases h : c
  · rw [if_pos h]; exact hx
  · rw [if_neg h]; exact hy
theorem b01_0 : (0 : Int32) = 0 ∨ (0 : Int32) = 1 := Or.inl rfl
theorem b01_1 : (1 : Int32) = 0 ∨ (1 : Int32) = 1 := Or.inr rfl
theorem b01_14 (sz o nn : Int32) : v_b14 sz o nn = 0 ∨ v_b14 sz o nn = 1 := i01 (i01 b01_1 (i01 b01_0 b01_1)) (i01 (i01 b01_1 (i01 b01_0 b01_1)) b01_0)
theorem b01_2 (sz o nn : Int32) : v_b2 sz o nn = 0 ∨ v_b2 sz o nn = 1 := i01 (i01 b01_1 (i01 b01_0 b01_1)) (i01 (i01 b01_1 (i01 b01_0 b01_1)) (b01_14 sz o nn))
theorem b01_a (kd sz o nn : Int32) : v_b1 kd sz o nn = 0 ∨ v_b1 kd sz o nn = 1 := i01 (i01 b01_1 (i01 b01_1 (i01 (i01 b01_1 (i01 b01_1 b01_0)) b01_0))) (b01_2 sz o nn)
theorem b01_18 (kd sz o nn : Int32) : v_b18 kd sz o nn = 0 ∨ v_b18 kd sz o nn = 1 := i01 (i01 (b01_a kd sz o nn) b01_1) (b01_a kd sz o nn)
theorem bad01 (kd sz o nn : Int32) : v_bad kd sz o nn = 0 ∨ v_bad kd sz o nn = 1 := i01 b01_1 (i01 b01_1 (i01 (i01 (b01_18 kd sz o nn) b01_1) (b01_18 kd sz o nn)))
section
variable {kd ac : Int32} {n : Nat} {fo fn : Nat → Int32} {a b : Nat}
theorem fit0_needs {op h : Int32} (q : h < o_needs op kd) : p_fit kd op h = 0 := by unfold p_fit; rw [if_pos q]
theorem fit0_grow {op h : Int32} (q : 8 < h + o_grow op) : p_fit kd op h = 0 := by
  unfold p_fit
  by_cases z : h < o_needs op kd
  · rw [if_pos z]
  · rw [if_neg z, if_pos q]
theorem cbd0_fit {sz : Int32} (ha : a < 64) (q : p_fit kd (fo a) (nI b) = 0) : p_cbd kd sz ac fo fn (nI a) (nI b) = 0 := by
  unfold p_cbd
  rw [rd_in fo ha (by omega), q]
  simp
theorem cbd0_next (hn : n ≤ 64) (ha : a < n) (hx : ¬ o_next (fo a) = 0) (q : nI a + 1 = nI n) : p_cbd kd (nI n) ac fo fn (nI a) (nI b) = 0 := by
  unfold p_cbd
  rw [rd_in fo (by omega) (by omega), if_neg hx, q, show p_has (nI n) (nI n) = 0 by unfold p_has; rw [if_neg (nI_pos (by omega)), if_pos (Int32.le_refl _)], if_pos rfl]
  simp
theorem cbd1 (hn : n ≤ 64) (ha : a < n) (hw : ¬ p_wf kd (nI n) ac fo fn (nI a) = 0) (q1 : ¬ nI b < o_needs (fo a) kd) (q2 : ¬ 8 < nI b + o_grow (fo a)) (q3 : o_next (fo a) = 0 ∨ ¬ nI a + 1 = nI n) : cb kd ac n fo fn a b := by
  have hf : p_fit kd (fo a) (nI b) = 1 := by unfold p_fit; rw [if_neg q1, if_neg q2]
  unfold cb p_cbd
  rw [rd_in fo (by omega) (by omega), if_neg hw, hf]
  rcases q3 with q3 | q3
  · rw [if_pos q3]; decide
  · by_cases z : o_next (fo a) = 0
    · rw [if_pos z]; decide
    · rw [if_neg z, nI_1]
      rw [nI_1] at q3
      have h1 : a + 1 < n := by
        by_cases h : a + 1 = n
        · exact absurd (by rw [h]) q3
        · omega
      rw [has_in hn h1]; decide
end
section
variable (kd ac : Int32) (n : Nat) (fo fn : Nat → Int32)
def Bad (k : Nat) : Prop := BW kd ac n fo fn k ∨ ∃ h1 h2, h1 < 9 ∧ h2 < 9 ∧ ¬ h1 = h2 ∧ Rch kd ac n fo fn k h1 ∧ Rch kd ac n fo fn k h2
def ChkR (r : Int32) : Prop := (r = -2 ∧ ∀ k, k < n → ¬ Bad kd ac n fo fn k) ∨ ∃ k, k < n ∧ r = nI k ∧ Bad kd ac n fo fn k ∧ ∀ j, j < k → ¬ Bad kd ac n fo fn j
def HgtR (a : Nat) (r : Int32) : Prop := ∃ m, m < 512 ∧ r = nI m ∧ ∀ h, h < 9 → (m.testBit h = true ↔ Rch kd ac n fo fn a h)
end
section
variable {kd ac : Int32} {n : Nat} {fo fn : Nat → Int32}
theorem ChkR_uniq (hn : n ≤ 64) {r s : Int32} (h1 : ChkR kd ac n fo fn r) (h2 : ChkR kd ac n fo fn s) : r = s := by
  rcases h1 with ⟨rfl, a⟩ | ⟨k, hk, rfl, hb, hl⟩ <;> rcases h2 with ⟨rfl, a'⟩ | ⟨k', hk', rfl, hb', hl'⟩
  · rfl
  · exact absurd hb' (a k' hk')
  · exact absurd hb (a' k hk)
  · rcases Nat.lt_trichotomy k k' with q | q | q
    · exact absurd hb (hl' k q)
    · rw [q]
    · exact absurd hb' (hl k' q)
theorem HgtR_uniq {a : Nat} {r s : Int32} (h1 : HgtR kd ac n fo fn a r) (h2 : HgtR kd ac n fo fn a s) : r = s := by
  obtain ⟨m, hm, rfl, e⟩ := h1
  obtain ⟨m', hm', rfl, e'⟩ := h2
  have : m = m' := by
    apply Nat.eq_of_testBit_eq
    intro i
    by_cases hi : i < 9
    · have h3 := (e i hi).trans (e' i hi).symm
      cases h4 : m.testBit i <;> cases h5 : m'.testBit i <;> simp_all
    · rw [Nat.testBit_lt_two_pow (Nat.lt_of_lt_of_le hm (Nat.pow_le_pow_right (n := 2) (by omega) (by omega : 9 ≤ i))), Nat.testBit_lt_two_pow (Nat.lt_of_lt_of_le hm' (Nat.pow_le_pow_right (n := 2) (by omega) (by omega : 9 ≤ i)))]
  rw [this]
theorem init_RI (hn : n ≤ 64) (h0 : 0 < n) {g fW : Nat → Int32} (hg : ∀ i, i < 576 → g i = 0) (hw : ∀ i, i < n → fW i = if p_wf kd (nI n) ac fo fn (nI i) = 0 then 1 else 0) : RI kd ac n fo fn (fun _ => False) (fun e => if e = 0 then 1 else 0) (upd g 0 1) fW := by
  refine ⟨fun e he => ?_, fun e he h => ?_, fun i hi => ?_, fun i hi h => ?_, fun i hi h => ?_, fun e he h _ => ?_, fun _ => ?_⟩
  · show upd g 0 1 e = nI (if e = 0 then 1 else 0) ∧ (if e = 0 then 1 else 0) ≤ 2
    unfold upd
    by_cases q : e = 0
    · rw [if_pos q, if_pos q]; exact ⟨rfl, by omega⟩
    · rw [if_neg q, if_neg q]; exact ⟨hg e he, by omega⟩
  · by_cases q : e = 0
    · subst q; exact Rch_0
    · simp [q] at h
  · rw [hw i hi]; by_cases q : p_wf kd (nI n) ac fo fn (nI i) = 0
    · rw [if_pos q]; exact Or.inr rfl
    · rw [if_neg q]; exact Or.inl rfl
  · rw [hw i hi] at h
    by_cases q : p_wf kd (nI n) ac fo fn (nI i) = 0
    · exact Or.inl q
    · rw [if_neg q] at h; exact absurd h (by decide)
  · rw [hw i hi, if_pos h]
  · by_cases q : e = 0
    · simp [q] at h
    · simp [q] at h
  · simp
/-- a marked place is taken up: its mark becomes 2 -/
theorem mark_RI (hn : n ≤ 64) {r : Nat → Nat} {fR fW : Nat → Int32} {j : Nat} (hj : j < 9 * n) (hI : RI kd ac n fo fn (fun _ => False) r fR fW) (h1 : r j = 1) : RI kd ac n fo fn (fun e => e = 9 * (j / 9) + j % 9) (upN r j 2) (upd fR j 2) fW := by
  obtain ⟨i1, i2, i3, i4, i5, i6, i7⟩ := hI
  have e9 : 9 * (j / 9) + j % 9 = j := by omega
  refine ⟨fun e he => ?_, fun e he h => ?_, i3, i4, i5, fun e he h hx => ?_, fun q => ?_⟩
  · unfold upd upN
    by_cases q : e = j
    · rw [if_pos q, if_pos q]; exact ⟨rfl, by omega⟩
    · rw [if_neg q, if_neg q]; exact i1 e he
  · unfold upN at h
    by_cases q : e = j
    · subst q; exact i2 e he (by omega)
    · rw [if_neg q] at h; exact i2 e he h
  · rw [e9] at hx
    unfold upN at h
    rw [if_neg hx] at h
    have h6 := i6 e he h (fun q => q)
    refine ⟨h6.1, fun hc k' h' hn' => ?_⟩
    have h7 := h6.2 hc k' h' hn'
    unfold upN
    by_cases q : 9 * k' + h' = j
    · rw [if_pos q]; omega
    · rw [if_neg q]; exact h7
  · unfold upN
    by_cases z : 0 = j
    · rw [if_pos z]; omega
    · rw [if_neg z]; exact i7 q
end
theorem two_le (P : Nat → Bool) : ∀ N, ((List.range N).countP P ≤ 1 ↔ ∀ a b, a < N → b < N → P a = true → P b = true → a = b)
  | 0 => by simp
  | N + 1 => by
    have ih := two_le P N
    have hz : (List.range N).countP P = 0 ↔ ∀ a, a < N → ¬ P a = true := by
      rw [List.countP_eq_zero]
      exact ⟨fun h a ha => h a (List.mem_range.mpr ha), fun h a ha => h a (List.mem_range.mp ha)⟩
    rw [List.range_succ, List.countP_append]
    by_cases hp : P N = true
    · simp only [List.countP_cons, List.countP_nil, hp, if_true]
      refine ⟨fun h a b ha hb pa pb => ?_, fun h => ?_⟩
      · have h0 := hz.mp (by omega)
        by_cases qa : a = N <;> by_cases qb : b = N
        · omega
        · exact absurd pb (h0 b (by omega))
        · exact absurd pa (h0 a (by omega))
        · exact absurd pa (h0 a (by omega))
      · have h0 : (List.range N).countP P = 0 := hz.mpr (fun a ha pa => by
          have := h a N (by omega) (by omega) pa hp
          omega)
        omega
    · have hpf : P N = false := by simpa using hp
      simp only [List.countP_cons, List.countP_nil, hpf]
      refine ⟨fun h a b ha hb pa pb => ?_, fun h => ?_⟩
      · have qa : ¬ a = N := fun q => by rw [q, hpf] at pa; cases pa
        have qb : ¬ b = N := fun q => by rw [q, hpf] at pb; cases pb
        exact ih.mp (by simpa using h) a b (by omega) (by omega) pa pb
      · have := ih.mpr (fun a b ha hb => h a b (by omega) (by omega))
        simpa using this
end
section
set_option maxHeartbeats 4000000 in
set_option maxRecDepth 100000 in
theorem c_Op_isOf (l : Launch) (op kd : Int32) : Met l y_Op_isOf w_Op_isOf (rmk 0) (va_Pc [.int op, .int kd] (fun _ => True)) (vp_Si (fun r => r = o_isOf op kd)) 0 0 (fun _ => False) := by
  refine Met.ofW (cc := b_Op_isOf) (maxL := 2) (ret := (some .boolean)) (by decide) rfl ?_
  intro p e s m args below meth c s₁ B hml hv
  obtain ⟨rfl, -⟩ := hv
  have hx := B.exec
  have hb := B.bytes
  have hr := B.returns
  have hts : ∀ w ∈ gW, w.before _ s = true := fun w h => atoms_spec (ws := w_Op_isOf) B.pre w (List.mem_cons_of_mem _ h)
  have hown : s.vm.findClass R_Op = some m.cls := findClass_of_methodNamed B.named
  have hlocks := B.notSynchronized
  have hl := lv_entry ([.int op, .int kd]) (n := 2) (Nat.le_of_ble_eq_true rfl)
  rw [lg_entry_eq]
  generalize (lg_sl ([.int op, .int kd]) ++ List.replicate (2 - (lg_sl ([.int op, .int kd])).length) Slot.unset).toArray = ls at hl ⊢
  have hl : lv_has ls 2 [(0, .int op), (1, .int kd)] := hl
  refine lv_iload_n hx hb d_Op_isOf_0 rfl (lv_at hl 0 rfl) ?_
  refine lv_bipush (v := 16) hx hb d_Op_isOf_1 (by decide) ?_
  refine lv_icmp_ne (tgt := 16) hx hb d_Op_isOf_3 (by decide) (fun h1 => ?_) (fun h1 => ?_)
  · -- ¬ op = 16
    refine lv_iload_n hx hb d_Op_isOf_16 rfl (lv_at hl 0 rfl) ?_
    refine lv_bipush (v := 18) hx hb d_Op_isOf_17 (by decide) ?_
    refine lv_icmp_ne (tgt := 33) hx hb d_Op_isOf_19 (by decide) (fun h2 => ?_) (fun h2 => ?_)
    · -- ¬ op = 18
      refine lv_iload_n hx hb d_Op_isOf_33 rfl (lv_at hl 0 rfl) ?_
      refine lv_if_lt (tgt := 47) hx hb d_Op_isOf_34 (by decide) (fun h3 => ?_) (fun h3 => ?_)
      · -- op < 0
        refine lv_iconst (v := 0) hx hb d_Op_isOf_47 (by decide) ?_
        refine W.zret hx hb hr (by decide) (fun t ht hW => ⟨_, rfl, ?_, ht⟩) (fun q h => by cases h) d_Op_isOf_48
        show 0 = o_isOf op kd
        first | (simp only [o_isOf, h1, h2, h3, if_true, if_false, eq_self, not_true_eq_false, not_false_eq_true, ne_eq]; done) | (simp only [o_isOf, h1, h2, h3, if_true, if_false, eq_self, not_true_eq_false, not_false_eq_true, ne_eq]; rfl) | (simp [o_isOf, h1, h2, h3]; done)
      · -- ¬ op < 0
        refine lv_iload_n hx hb d_Op_isOf_37 rfl (lv_at hl 0 rfl) ?_
        refine lv_bipush (v := 17) hx hb d_Op_isOf_38 (by decide) ?_
        refine lv_icmp_gt (tgt := 47) hx hb d_Op_isOf_40 (by decide) (fun h4 => ?_) (fun h4 => ?_)
        · -- 17 < op
          refine lv_iconst (v := 0) hx hb d_Op_isOf_47 (by decide) ?_
          refine W.zret hx hb hr (by decide) (fun t ht hW => ⟨_, rfl, ?_, ht⟩) (fun q h => by cases h) d_Op_isOf_48
          show 0 = o_isOf op kd
          first | (simp only [o_isOf, h1, h2, h3, h4, if_true, if_false, eq_self, not_true_eq_false, not_false_eq_true, ne_eq]; done) | (simp only [o_isOf, h1, h2, h3, h4, if_true, if_false, eq_self, not_true_eq_false, not_false_eq_true, ne_eq]; rfl) | (simp [o_isOf, h1, h2, h3, h4]; done)
        · -- ¬ 17 < op
          refine lv_iconst (v := 1) hx hb d_Op_isOf_43 (by decide) ?_
          refine lv_goto (tgt := 48) hx hb d_Op_isOf_44 (by decide) ?_
          refine W.zret hx hb hr (by decide) (fun t ht hW => ⟨_, rfl, ?_, ht⟩) (fun q h => by cases h) d_Op_isOf_48
          show 1 = o_isOf op kd
          first | (simp only [o_isOf, h1, h2, h3, h4, if_true, if_false, eq_self, not_true_eq_false, not_false_eq_true, ne_eq]; done) | (simp only [o_isOf, h1, h2, h3, h4, if_true, if_false, eq_self, not_true_eq_false, not_false_eq_true, ne_eq]; rfl) | (simp [o_isOf, h1, h2, h3, h4]; done)
    · -- op = 18
      refine lv_iload_n hx hb d_Op_isOf_22 rfl (lv_at hl 1 rfl) ?_
      refine lv_iconst (v := 3) hx hb d_Op_isOf_23 (by decide) ?_
      refine lv_icmp_ne (tgt := 31) hx hb d_Op_isOf_24 (by decide) (fun h5 => ?_) (fun h5 => ?_)
      · -- ¬ kd = 3
        refine lv_iconst (v := 0) hx hb d_Op_isOf_31 (by decide) ?_
        refine W.zret hx hb hr (by decide) (fun t ht hW => ⟨_, rfl, ?_, ht⟩) (fun q h => by cases h) d_Op_isOf_32
        show 0 = o_isOf op kd
        first | (simp only [o_isOf, h1, h2, h5, if_true, if_false, eq_self, not_true_eq_false, not_false_eq_true, ne_eq]; done) | (simp only [o_isOf, h1, h2, h5, if_true, if_false, eq_self, not_true_eq_false, not_false_eq_true, ne_eq]; rfl) | (simp [o_isOf, h1, h2, h5]; done)
      · -- kd = 3
        refine lv_iconst (v := 1) hx hb d_Op_isOf_27 (by decide) ?_
        refine lv_goto (tgt := 32) hx hb d_Op_isOf_28 (by decide) ?_
        refine W.zret hx hb hr (by decide) (fun t ht hW => ⟨_, rfl, ?_, ht⟩) (fun q h => by cases h) d_Op_isOf_32
        show 1 = o_isOf op kd
        first | (simp only [o_isOf, h1, h2, h5, if_true, if_false, eq_self, not_true_eq_false, not_false_eq_true, ne_eq]; done) | (simp only [o_isOf, h1, h2, h5, if_true, if_false, eq_self, not_true_eq_false, not_false_eq_true, ne_eq]; rfl) | (simp [o_isOf, h1, h2, h5]; done)
  · -- op = 16
    refine lv_iload_n hx hb d_Op_isOf_6 rfl (lv_at hl 1 rfl) ?_
    refine lv_if_ne (tgt := 14) hx hb d_Op_isOf_7 (by decide) (fun h6 => ?_) (fun h6 => ?_)
    · -- ¬ kd = 0
      refine lv_iconst (v := 0) hx hb d_Op_isOf_14 (by decide) ?_
      refine W.zret hx hb hr (by decide) (fun t ht hW => ⟨_, rfl, ?_, ht⟩) (fun q h => by cases h) d_Op_isOf_15
      show 0 = o_isOf op kd
      first | (simp only [o_isOf, h1, h6, if_true, if_false, eq_self, not_true_eq_false, not_false_eq_true, ne_eq]; done) | (simp only [o_isOf, h1, h6, if_true, if_false, eq_self, not_true_eq_false, not_false_eq_true, ne_eq]; rfl) | (simp [o_isOf, h1, h6]; done)
    · -- kd = 0
      refine lv_iconst (v := 1) hx hb d_Op_isOf_10 (by decide) ?_
      refine lv_goto (tgt := 15) hx hb d_Op_isOf_11 (by decide) ?_
      refine W.zret hx hb hr (by decide) (fun t ht hW => ⟨_, rfl, ?_, ht⟩) (fun q h => by cases h) d_Op_isOf_15
      show 1 = o_isOf op kd
      first | (simp only [o_isOf, h1, h6, if_true, if_false, eq_self, not_true_eq_false, not_false_eq_true, ne_eq]; done) | (simp only [o_isOf, h1, h6, if_true, if_false, eq_self, not_true_eq_false, not_false_eq_true, ne_eq]; rfl) | (simp [o_isOf, h1, h6]; done)
set_option maxHeartbeats 4000000 in
set_option maxRecDepth 100000 in
theorem c_Op_jumps (l : Launch) (op : Int32) : Met l y_Op_jumps w_Op_jumps (rmk 0) (va_Pc [.int op] (fun _ => True)) (vp_Si (fun r => r = o_jump op)) 0 0 (fun _ => False) := by
  refine Met.ofW (cc := b_Op_jumps) (maxL := 1) (ret := (some .boolean)) (by decide) rfl ?_
  intro p e s m args below meth c s₁ B hml hv
  obtain ⟨rfl, -⟩ := hv
  have hx := B.exec
  have hb := B.bytes
  have hr := B.returns
  have hts : ∀ w ∈ gW, w.before _ s = true := fun w h => atoms_spec (ws := w_Op_jumps) B.pre w (List.mem_cons_of_mem _ h)
  have hown : s.vm.findClass R_Op = some m.cls := findClass_of_methodNamed B.named
  have hlocks := B.notSynchronized
  have hl := lv_entry ([.int op]) (n := 1) (Nat.le_of_ble_eq_true rfl)
  rw [lg_entry_eq]
  generalize (lg_sl ([.int op]) ++ List.replicate (1 - (lg_sl ([.int op])).length) Slot.unset).toArray = ls at hl ⊢
  have hl : lv_has ls 1 [(0, .int op)] := hl
  refine lv_iload_n hx hb d_Op_jumps_0 rfl (lv_at hl 0 rfl) ?_
  refine lv_bipush (v := 14) hx hb d_Op_jumps_1 (by decide) ?_
  refine lv_icmp_eq (tgt := 12) hx hb d_Op_jumps_3 (by decide) (fun h1 => ?_) (fun h1 => ?_)
  · -- op = 14
    refine lv_iconst (v := 1) hx hb d_Op_jumps_12 (by decide) ?_
    refine lv_goto (tgt := 17) hx hb d_Op_jumps_13 (by decide) ?_
    refine W.zret hx hb hr (by decide) (fun t ht hW => ⟨_, rfl, ?_, ht⟩) (fun q h => by cases h) d_Op_jumps_17
    show 1 = o_jump op
    first | (simp only [o_jump, h1, if_true, if_false, eq_self, not_true_eq_false, not_false_eq_true, ne_eq]; done) | (simp only [o_jump, h1, if_true, if_false, eq_self, not_true_eq_false, not_false_eq_true, ne_eq]; rfl) | (simp [o_jump, h1]; done)
  · -- ¬ op = 14
    refine lv_iload_n hx hb d_Op_jumps_6 rfl (lv_at hl 0 rfl) ?_
    refine lv_bipush (v := 15) hx hb d_Op_jumps_7 (by decide) ?_
    refine lv_icmp_ne (tgt := 16) hx hb d_Op_jumps_9 (by decide) (fun h2 => ?_) (fun h2 => ?_)
    · -- ¬ op = 15
      refine lv_iconst (v := 0) hx hb d_Op_jumps_16 (by decide) ?_
      refine W.zret hx hb hr (by decide) (fun t ht hW => ⟨_, rfl, ?_, ht⟩) (fun q h => by cases h) d_Op_jumps_17
      show 0 = o_jump op
      first | (simp only [o_jump, h1, h2, if_true, if_false, eq_self, not_true_eq_false, not_false_eq_true, ne_eq]; done) | (simp only [o_jump, h1, h2, if_true, if_false, eq_self, not_true_eq_false, not_false_eq_true, ne_eq]; rfl) | (simp [o_jump, h1, h2]; done)
    · -- op = 15
      refine lv_iconst (v := 1) hx hb d_Op_jumps_12 (by decide) ?_
      refine lv_goto (tgt := 17) hx hb d_Op_jumps_13 (by decide) ?_
      refine W.zret hx hb hr (by decide) (fun t ht hW => ⟨_, rfl, ?_, ht⟩) (fun q h => by cases h) d_Op_jumps_17
      show 1 = o_jump op
      first | (simp only [o_jump, h1, h2, if_true, if_false, eq_self, not_true_eq_false, not_false_eq_true, ne_eq]; done) | (simp only [o_jump, h1, h2, if_true, if_false, eq_self, not_true_eq_false, not_false_eq_true, ne_eq]; rfl) | (simp [o_jump, h1, h2]; done)
set_option maxHeartbeats 4000000 in
set_option maxRecDepth 100000 in
theorem c_Op_hasNext (l : Launch) (op : Int32) : Met l y_Op_hasNext w_Op_hasNext (rmk 0) (va_Pc [.int op] (fun _ => True)) (vp_Si (fun r => r = o_next op)) 0 0 (fun _ => False) := by
  refine Met.ofW (cc := b_Op_hasNext) (maxL := 1) (ret := (some .boolean)) (by decide) rfl ?_
  intro p e s m args below meth c s₁ B hml hv
  obtain ⟨rfl, -⟩ := hv
  have hx := B.exec
  have hb := B.bytes
  have hr := B.returns
  have hts : ∀ w ∈ gW, w.before _ s = true := fun w h => atoms_spec (ws := w_Op_hasNext) B.pre w (List.mem_cons_of_mem _ h)
  have hown : s.vm.findClass R_Op = some m.cls := findClass_of_methodNamed B.named
  have hlocks := B.notSynchronized
  have hl := lv_entry ([.int op]) (n := 1) (Nat.le_of_ble_eq_true rfl)
  rw [lg_entry_eq]
  generalize (lg_sl ([.int op]) ++ List.replicate (1 - (lg_sl ([.int op])).length) Slot.unset).toArray = ls at hl ⊢
  have hl : lv_has ls 1 [(0, .int op)] := hl
  refine lv_iload_n hx hb d_Op_hasNext_0 rfl (lv_at hl 0 rfl) ?_
  refine lv_bipush (v := 14) hx hb d_Op_hasNext_1 (by decide) ?_
  refine lv_icmp_eq (tgt := 22) hx hb d_Op_hasNext_3 (by decide) (fun h1 => ?_) (fun h1 => ?_)
  · -- op = 14
    refine lv_iconst (v := 0) hx hb d_Op_hasNext_22 (by decide) ?_
    refine W.zret hx hb hr (by decide) (fun t ht hW => ⟨_, rfl, ?_, ht⟩) (fun q h => by cases h) d_Op_hasNext_23
    show 0 = o_next op
    first | (simp only [o_next, h1, if_true, if_false, eq_self, not_true_eq_false, not_false_eq_true, ne_eq]; done) | (simp only [o_next, h1, if_true, if_false, eq_self, not_true_eq_false, not_false_eq_true, ne_eq]; rfl) | (simp [o_next, h1]; done)
  · -- ¬ op = 14
    refine lv_iload_n hx hb d_Op_hasNext_6 rfl (lv_at hl 0 rfl) ?_
    refine lv_bipush (v := 17) hx hb d_Op_hasNext_7 (by decide) ?_
    refine lv_icmp_eq (tgt := 22) hx hb d_Op_hasNext_9 (by decide) (fun h2 => ?_) (fun h2 => ?_)
    · -- op = 17
      refine lv_iconst (v := 0) hx hb d_Op_hasNext_22 (by decide) ?_
      refine W.zret hx hb hr (by decide) (fun t ht hW => ⟨_, rfl, ?_, ht⟩) (fun q h => by cases h) d_Op_hasNext_23
      show 0 = o_next op
      first | (simp only [o_next, h1, h2, if_true, if_false, eq_self, not_true_eq_false, not_false_eq_true, ne_eq]; done) | (simp only [o_next, h1, h2, if_true, if_false, eq_self, not_true_eq_false, not_false_eq_true, ne_eq]; rfl) | (simp [o_next, h1, h2]; done)
    · -- ¬ op = 17
      refine lv_iload_n hx hb d_Op_hasNext_12 rfl (lv_at hl 0 rfl) ?_
      refine lv_bipush (v := 18) hx hb d_Op_hasNext_13 (by decide) ?_
      refine lv_icmp_eq (tgt := 22) hx hb d_Op_hasNext_15 (by decide) (fun h3 => ?_) (fun h3 => ?_)
      · -- op = 18
        refine lv_iconst (v := 0) hx hb d_Op_hasNext_22 (by decide) ?_
        refine W.zret hx hb hr (by decide) (fun t ht hW => ⟨_, rfl, ?_, ht⟩) (fun q h => by cases h) d_Op_hasNext_23
        show 0 = o_next op
        first | (simp only [o_next, h1, h2, h3, if_true, if_false, eq_self, not_true_eq_false, not_false_eq_true, ne_eq]; done) | (simp only [o_next, h1, h2, h3, if_true, if_false, eq_self, not_true_eq_false, not_false_eq_true, ne_eq]; rfl) | (simp [o_next, h1, h2, h3]; done)
      · -- ¬ op = 18
        refine lv_iconst (v := 1) hx hb d_Op_hasNext_18 (by decide) ?_
        refine lv_goto (tgt := 23) hx hb d_Op_hasNext_19 (by decide) ?_
        refine W.zret hx hb hr (by decide) (fun t ht hW => ⟨_, rfl, ?_, ht⟩) (fun q h => by cases h) d_Op_hasNext_23
        show 1 = o_next op
        first | (simp only [o_next, h1, h2, h3, if_true, if_false, eq_self, not_true_eq_false, not_false_eq_true, ne_eq]; done) | (simp only [o_next, h1, h2, h3, if_true, if_false, eq_self, not_true_eq_false, not_false_eq_true, ne_eq]; rfl) | (simp [o_next, h1, h2, h3]; done)
set_option maxHeartbeats 4000000 in
set_option maxRecDepth 100000 in
theorem c_Machine_combine (l : Launch) (op x y : Int32) : Met l y_Machine_combine w_Machine_combine (rmk 0) (va_Pc [.int op, .int x, .int y] (fun _ => True)) (vp_Si (fun r => r = m_comb op x y)) 0 0 (fun _ => False) := by
  refine Met.ofW (cc := b_Machine_combine) (maxL := 3) (ret := (some .int)) (by decide) rfl ?_
  intro p e s m args below meth c s₁ B hml hv
  obtain ⟨rfl, -⟩ := hv
  have hx := B.exec
  have hb := B.bytes
  have hr := B.returns
  have hts : ∀ w ∈ gW, w.before _ s = true := fun w h => atoms_spec (ws := w_Machine_combine) B.pre w (List.mem_cons_of_mem _ h)
  have hown : s.vm.findClass R_Machine = some m.cls := findClass_of_methodNamed B.named
  have hlocks := B.notSynchronized
  have hl := lv_entry ([.int op, .int x, .int y]) (n := 3) (Nat.le_of_ble_eq_true rfl)
  rw [lg_entry_eq]
  generalize (lg_sl ([.int op, .int x, .int y]) ++ List.replicate (3 - (lg_sl ([.int op, .int x, .int y])).length) Slot.unset).toArray = ls at hl ⊢
  have hl : lv_has ls 3 [(0, .int op), (1, .int x), (2, .int y)] := hl
  refine lv_iload_n hx hb d_Machine_combine_0 rfl (lv_at hl 0 rfl) ?_
  rcases (by omega : (Int32.toInt op < 7 ∨ 12 < Int32.toInt op) ∨ Int32.toInt op = 7 ∨ Int32.toInt op = 8 ∨ Int32.toInt op = 9 ∨ Int32.toInt op = 10 ∨ Int32.toInt op = 11 ∨ Int32.toInt op = 12) with h1 | h1 | h1 | h1 | h1 | h1 | h1
  · -- default
    refine lv_tableOut (tgt := 87) hx hb d_Machine_combine_1 h1 (by decide) ?_
    refine lv_iload_n hx hb d_Machine_combine_87 rfl (lv_at hl 1 rfl) ?_
    refine lv_iload_n hx hb d_Machine_combine_88 rfl (lv_at hl 2 rfl) ?_
    refine lv_icmp_ne (tgt := 96) hx hb d_Machine_combine_89 (by decide) (fun h2 => ?_) (fun h2 => ?_)
    · -- ¬ x = y
      refine lv_iconst (v := 0) hx hb d_Machine_combine_96 (by decide) ?_
      refine W.iret hx hb hr (fun t ht hW => ⟨_, rfl, ?_, ht⟩) (fun q h => by cases h) d_Machine_combine_97
      show 0 = m_comb op x y
      (have g7 := sw_ne (k := 7) h1 (by decide); have g8 := sw_ne (k := 8) h1 (by decide); have g9 := sw_ne (k := 9) h1 (by decide); have g10 := sw_ne (k := 10) h1 (by decide); have g11 := sw_ne (k := 11) h1 (by decide); have g12 := sw_ne (k := 12) h1 (by decide); simp only [m_comb, g7, g8, g9, g10, g11, g12, h2, if_true, if_false, eq_self, not_true_eq_false, not_false_eq_true, ne_eq])
    · -- x = y
      refine lv_iconst (v := 1) hx hb d_Machine_combine_92 (by decide) ?_
      refine lv_goto (tgt := 97) hx hb d_Machine_combine_93 (by decide) ?_
      refine W.iret hx hb hr (fun t ht hW => ⟨_, rfl, ?_, ht⟩) (fun q h => by cases h) d_Machine_combine_97
      show 1 = m_comb op x y
      (have g7 := sw_ne (k := 7) h1 (by decide); have g8 := sw_ne (k := 8) h1 (by decide); have g9 := sw_ne (k := 9) h1 (by decide); have g10 := sw_ne (k := 10) h1 (by decide); have g11 := sw_ne (k := 11) h1 (by decide); have g12 := sw_ne (k := 12) h1 (by decide); simp only [m_comb, g7, g8, g9, g10, g11, g12, h2, if_true, if_false, eq_self, not_true_eq_false, not_false_eq_true, ne_eq])
  · -- case 7
    have h1 : op = 7 := Int32.toInt_inj.mp (by rw [h1]; decide)
    subst h1
    refine lv_tableIn (tgt := 40) (off := 39) hx hb d_Machine_combine_1 (by decide) (by decide) (by decide +kernel) (by decide) ?_
    refine lv_iload_n hx hb d_Machine_combine_40 rfl (lv_at hl 1 rfl) ?_
    refine lv_iload_n hx hb d_Machine_combine_41 rfl (lv_at hl 2 rfl) ?_
    refine lv_iadd hx hb d_Machine_combine_42 ?_
    refine W.iret hx hb hr (fun t ht hW => ⟨_, rfl, ?_, ht⟩) (fun q h => by cases h) d_Machine_combine_43
    show (x + y) = m_comb 7 x y
    first | rfl | (simp only [m_comb, if_true, if_false, eq_self, not_true_eq_false, not_false_eq_true, ne_eq]; rfl) | (unfold m_comb; simp [])
  · -- case 8
    have h1 : op = 8 := Int32.toInt_inj.mp (by rw [h1]; decide)
    subst h1
    refine lv_tableIn (tgt := 44) (off := 43) hx hb d_Machine_combine_1 (by decide) (by decide) (by decide +kernel) (by decide) ?_
    refine lv_iload_n hx hb d_Machine_combine_44 rfl (lv_at hl 1 rfl) ?_
    refine lv_iload_n hx hb d_Machine_combine_45 rfl (lv_at hl 2 rfl) ?_
    refine lv_isub hx hb d_Machine_combine_46 ?_
    refine W.iret hx hb hr (fun t ht hW => ⟨_, rfl, ?_, ht⟩) (fun q h => by cases h) d_Machine_combine_47
    show (x - y) = m_comb 8 x y
    first | rfl | (simp only [m_comb, if_true, if_false, eq_self, not_true_eq_false, not_false_eq_true, ne_eq]; rfl) | (unfold m_comb; simp [])
  · -- case 9
    have h1 : op = 9 := Int32.toInt_inj.mp (by rw [h1]; decide)
    subst h1
    refine lv_tableIn (tgt := 48) (off := 47) hx hb d_Machine_combine_1 (by decide) (by decide) (by decide +kernel) (by decide) ?_
    refine lv_iload_n hx hb d_Machine_combine_48 rfl (lv_at hl 1 rfl) ?_
    refine lv_iload_n hx hb d_Machine_combine_49 rfl (lv_at hl 2 rfl) ?_
    refine lv_imul hx hb d_Machine_combine_50 ?_
    refine W.iret hx hb hr (fun t ht hW => ⟨_, rfl, ?_, ht⟩) (fun q h => by cases h) d_Machine_combine_51
    show (x * y) = m_comb 9 x y
    first | rfl | (simp only [m_comb, if_true, if_false, eq_self, not_true_eq_false, not_false_eq_true, ne_eq]; rfl) | (unfold m_comb; simp [])
  · -- case 10
    have h1 : op = 10 := Int32.toInt_inj.mp (by rw [h1]; decide)
    subst h1
    refine lv_tableIn (tgt := 52) (off := 51) hx hb d_Machine_combine_1 (by decide) (by decide) (by decide +kernel) (by decide) ?_
    refine lv_iload_n hx hb d_Machine_combine_52 rfl (lv_at hl 2 rfl) ?_
    refine lv_if_ne (tgt := 60) hx hb d_Machine_combine_53 (by decide) (fun h3 => ?_) (fun h3 => ?_)
    · -- ¬ y = 0
      refine lv_iload_n hx hb d_Machine_combine_60 rfl (lv_at hl 1 rfl) ?_
      refine lv_iload_n hx hb d_Machine_combine_61 rfl (lv_at hl 2 rfl) ?_
      refine lv_idiv hx hb d_Machine_combine_62 h3 ?_
      refine W.iret hx hb hr (fun t ht hW => ⟨_, rfl, ?_, ht⟩) (fun q h => by cases h) d_Machine_combine_63
      show (x / y) = m_comb 10 x y
      first | rfl | (simp only [m_comb, h3, if_true, if_false, eq_self, not_true_eq_false, not_false_eq_true, ne_eq]; rfl) | (unfold m_comb; simp [h3])
    · -- y = 0
      refine lv_iconst (v := 0) hx hb d_Machine_combine_56 (by decide) ?_
      refine lv_goto (tgt := 63) hx hb d_Machine_combine_57 (by decide) ?_
      refine W.iret hx hb hr (fun t ht hW => ⟨_, rfl, ?_, ht⟩) (fun q h => by cases h) d_Machine_combine_63
      show 0 = m_comb 10 x y
      first | rfl | (simp only [m_comb, h3, if_true, if_false, eq_self, not_true_eq_false, not_false_eq_true, ne_eq]; rfl) | (unfold m_comb; simp [h3])
  · -- case 11
    have h1 : op = 11 := Int32.toInt_inj.mp (by rw [h1]; decide)
    subst h1
    refine lv_tableIn (tgt := 64) (off := 63) hx hb d_Machine_combine_1 (by decide) (by decide) (by decide +kernel) (by decide) ?_
    refine lv_iload_n hx hb d_Machine_combine_64 rfl (lv_at hl 2 rfl) ?_
    refine lv_if_ne (tgt := 72) hx hb d_Machine_combine_65 (by decide) (fun h4 => ?_) (fun h4 => ?_)
    · -- ¬ y = 0
      refine lv_iload_n hx hb d_Machine_combine_72 rfl (lv_at hl 1 rfl) ?_
      refine lv_iload_n hx hb d_Machine_combine_73 rfl (lv_at hl 2 rfl) ?_
      refine lv_irem hx hb d_Machine_combine_74 h4 ?_
      refine W.iret hx hb hr (fun t ht hW => ⟨_, rfl, ?_, ht⟩) (fun q h => by cases h) d_Machine_combine_75
      show (x - x / y * y) = m_comb 11 x y
      first | rfl | (simp only [m_comb, h4, if_true, if_false, eq_self, not_true_eq_false, not_false_eq_true, ne_eq]; rfl) | (unfold m_comb; simp [h4])
    · -- y = 0
      refine lv_iconst (v := 0) hx hb d_Machine_combine_68 (by decide) ?_
      refine lv_goto (tgt := 75) hx hb d_Machine_combine_69 (by decide) ?_
      refine W.iret hx hb hr (fun t ht hW => ⟨_, rfl, ?_, ht⟩) (fun q h => by cases h) d_Machine_combine_75
      show 0 = m_comb 11 x y
      first | rfl | (simp only [m_comb, h4, if_true, if_false, eq_self, not_true_eq_false, not_false_eq_true, ne_eq]; rfl) | (unfold m_comb; simp [h4])
  · -- case 12
    have h1 : op = 12 := Int32.toInt_inj.mp (by rw [h1]; decide)
    subst h1
    refine lv_tableIn (tgt := 76) (off := 75) hx hb d_Machine_combine_1 (by decide) (by decide) (by decide +kernel) (by decide) ?_
    refine lv_iload_n hx hb d_Machine_combine_76 rfl (lv_at hl 1 rfl) ?_
    refine lv_iload_n hx hb d_Machine_combine_77 rfl (lv_at hl 2 rfl) ?_
    refine lv_icmp_ge (tgt := 85) hx hb d_Machine_combine_78 (by decide) (fun h5 => ?_) (fun h5 => ?_)
    · -- y ≤ x
      refine lv_iconst (v := 0) hx hb d_Machine_combine_85 (by decide) ?_
      refine W.iret hx hb hr (fun t ht hW => ⟨_, rfl, ?_, ht⟩) (fun q h => by cases h) d_Machine_combine_86
      show 0 = m_comb 12 x y
      first | rfl | (simp only [m_comb, h5, if_true, if_false, eq_self, not_true_eq_false, not_false_eq_true, ne_eq]; rfl) | (unfold m_comb; simp [h5])
    · -- ¬ y ≤ x
      refine lv_iconst (v := 1) hx hb d_Machine_combine_81 (by decide) ?_
      refine lv_goto (tgt := 86) hx hb d_Machine_combine_82 (by decide) ?_
      refine W.iret hx hb hr (fun t ht hW => ⟨_, rfl, ?_, ht⟩) (fun q h => by cases h) d_Machine_combine_86
      show 1 = m_comb 12 x y
      first | rfl | (simp only [m_comb, h5, if_true, if_false, eq_self, not_true_eq_false, not_false_eq_true, ne_eq]; rfl) | (unfold m_comb; simp [h5])
set_option maxHeartbeats 4000000 in
set_option maxRecDepth 100000 in
theorem c_SJ_read (l : Launch) (a n : Nat) (f : Nat → Int32) (i : Int32) (hn : n < 2 ^ 31) : Met l y_SJ_read w_SJ_read (rmk 0) (va_Pc [.ref a, .int i] (RP a n f)) (vp_Si (fun r => r = rd f n i)) 0 0 (fun _ => False) := by
  refine Met.ofW (cc := b_SJ_read) (maxL := 2) (ret := (some .int)) (by decide) rfl ?_
  intro p e s m args below meth c s₁ B hml hv
  obtain ⟨rfl, hT⟩ := hv
  have hx := B.exec
  have hb := B.bytes
  have hr := B.returns
  have hlocks := B.notSynchronized
  have hS : va_S (fun _ => False) s.heap s.heap [] := va_S.rf
  have hT : va_T .int a n (fun j => .int (f j)) (fun _ => False) s s.heap := hT
  have hl := lv_entry ([.ref a, .int i]) (n := 2) (Nat.le_of_ble_eq_true rfl)
  rw [lg_entry_eq]
  generalize (lg_sl ([.ref a, .int i]) ++ List.replicate (2 - (lg_sl ([.ref a, .int i])).length) Slot.unset).toArray = ls at hl ⊢
  have hl : lv_has ls 2 [(0, .ref a), (1, .int i)] := hl
  refine lv_iload_n hx hb d_SJ_read_0 rfl (lv_at hl 1 rfl) ?_
  refine lv_if_lt (tgt := 16) hx hb d_SJ_read_1 (by decide) (fun h1 => ?_) (fun h1 => ?_)
  · refine lv_iconst (v := 0) hx hb d_SJ_read_16 (by decide) ?_
    refine W.iret hx hb hr (fun t ht hW => ⟨_, rfl, ?_, ht⟩) (fun q h => by cases h) d_SJ_read_17
    show 0 = rd f n i
    simp only [rd, h1, if_true, if_false]
  · refine lv_iload_n hx hb d_SJ_read_4 rfl (lv_at hl 1 rfl) ?_
    refine lv_aload_n hx hb d_SJ_read_5 rfl (lv_at hl 0 rfl) ?_
    refine va_tlen (v := nI n) hx hb hT hS rfl d_SJ_read_6 ?_
    refine lv_icmp_ge (tgt := 16) hx hb d_SJ_read_7 (by decide) (fun h2 => ?_) (fun h2 => ?_)
    · refine lv_iconst (v := 0) hx hb d_SJ_read_16 (by decide) ?_
      refine W.iret hx hb hr (fun t ht hW => ⟨_, rfl, ?_, ht⟩) (fun q h => by cases h) d_SJ_read_17
      show 0 = rd f n i
      simp only [rd, h1, h2, if_true, if_false]
    · refine lv_aload_n hx hb d_SJ_read_10 rfl (lv_at hl 0 rfl) ?_
      refine lv_iload_n hx hb d_SJ_read_11 rfl (lv_at hl 1 rfl) ?_
      refine va_ti (v := .int (f i.toNatClampNeg)) hx hb hT hS (nI_inr hn h1 h2) rfl d_SJ_read_12 ?_
      refine lv_goto (tgt := 17) hx hb d_SJ_read_13 (by decide) ?_
      refine W.iret hx hb hr (fun t ht hW => ⟨_, rfl, ?_, ht⟩) (fun q h => by cases h) d_SJ_read_17
      show f i.toNatClampNeg = rd f n i
      simp only [rd, h1, h2, if_true, if_false]
set_option maxHeartbeats 4000000 in
set_option maxRecDepth 100000 in
theorem c_SJ_write (l : Launch) (D : va_G) (cI cZ : ClassId) (tN tG : Nat) (hz : Nat) (a n : Nat) (f : Nat → Int32) (i v : Int32) (hn : n < 2 ^ 31) : Met l y_SJ_write w_SJ_write (rmk 0) (va_Pc [.ref a, .int i, .int v] (MZ D cI cZ tN tG [(a, .inl (cI, n, .inl f))] hz)) (va_Qv (fun u : Nat → Int32 => u = wr f n i v) (fun u t => ME D (va_A [(a, .inl (cI, n, .inl f))] hz) [(a, .inl (cI, n, .inl u))] t) (va_A [(a, .inl (cI, n, .inl f))] hz)) 0 0 (va_A [(a, .inl (cI, n, .inl f))] hz) := by
  refine Met.ofW (cc := b_SJ_write) (maxL := 3) (ret := none) (by decide) rfl ?_
  intro p e s m args below meth c s₁ B hml hv
  obtain ⟨rfl, hsz, hP, hE, hD0, hZ⟩ := hv
  have hx := B.exec
  have hb := B.bytes
  have hr := B.returns
  have hts : ∀ w ∈ gW, w.before _ s = true := fun w h => atoms_spec (ws := w_SJ_write) B.pre w (List.mem_cons_of_mem _ h)
  have hown : s.vm.findClass R_SJ = some m.cls := findClass_of_methodNamed B.named
  have hlocks := B.notSynchronized
  subst hsz
  have hD := hD0.self (sz := s.heap.size)
  have hA : ∀ q : Nat, s.heap.size ≤ q → va_A [(a, .inl (cI, n, .inl f))] s.heap.size q := fun q h => Or.inr h
  generalize va_A [(a, .inl (cI, n, .inl f))] s.heap.size = A at hD hA hZ ⊢
  have hS : va_S A s.heap s.heap [] := va_S.rf
  have hP : va_P D classes [(a, .inl (cI, n, .inl f))] s.heap := hP
  have hD : va_D A [(a, .inl (cI, n, .inl f))] := hD
  have hl := lv_entry ([.ref a, .int i, .int v]) (n := 3) (Nat.le_of_ble_eq_true rfl)
  rw [lg_entry_eq]
  generalize (lg_sl ([.ref a, .int i, .int v]) ++ List.replicate (3 - (lg_sl ([.ref a, .int i, .int v])).length) Slot.unset).toArray = ls at hl ⊢
  have hl : lv_has ls 3 [(0, .ref a), (1, .int i), (2, .int v)] := hl
  refine lv_iload_n hx hb d_SJ_write_0 rfl (lv_at hl 1 rfl) ?_
  refine lv_if_lt (tgt := 14) hx hb d_SJ_write_1 (by decide) (fun h1 => ?_) (fun h1 => ?_)
  · -- i < 0
    refine W.vret hx hb hr (fun t ht hW => ⟨⟨f, rfl, ?_, ?_⟩, hS.F ht⟩) hS.2.2 d_SJ_write_14
    · first | (simp only [wr, h1, if_true, if_false, eq_self, not_true_eq_false, not_false_eq_true, ne_eq]; done) | (simp only [wr, h1, if_true, if_false, eq_self, not_true_eq_false, not_false_eq_true, ne_eq]; rfl) | (simp [wr, h1]; done)
    · exact ⟨by rw [ht]; exact hP.sub [0] rfl, hD.sub [0] (by decide) rfl⟩
  · -- ¬ i < 0
    refine lv_iload_n hx hb d_SJ_write_4 rfl (lv_at hl 1 rfl) ?_
    refine lv_aload_n hx hb d_SJ_write_5 rfl (lv_at hl 0 rfl) ?_
    refine va_alen (v := (nI n)) hx hb hE.1 hP 0 0 rfl rfl rfl d_SJ_write_6 ?_
    refine lv_icmp_ge (tgt := 14) hx hb d_SJ_write_7 (by decide) (fun h2 => ?_) (fun h2 => ?_)
    · -- (nI n) ≤ i
      refine W.vret hx hb hr (fun t ht hW => ⟨⟨f, rfl, ?_, ?_⟩, hS.F ht⟩) hS.2.2 d_SJ_write_14
      · first | (simp only [wr, h1, h2, if_true, if_false, eq_self, not_true_eq_false, not_false_eq_true, ne_eq]; done) | (simp only [wr, h1, h2, if_true, if_false, eq_self, not_true_eq_false, not_false_eq_true, ne_eq]; rfl) | (simp [wr, h1, h2]; done)
      · exact ⟨by rw [ht]; exact hP.sub [0] rfl, hD.sub [0] (by decide) rfl⟩
    · -- ¬ (nI n) ≤ i
      refine lv_aload_n hx hb d_SJ_write_10 rfl (lv_at hl 0 rfl) ?_
      refine lv_iload_n hx hb d_SJ_write_11 rfl (lv_at hl 1 rfl) ?_
      refine lv_iload_n hx hb d_SJ_write_12 rfl (lv_at hl 2 rfl) ?_
      refine va_iast hx hb hE.1 hP hD hS 0 0 rfl rfl (nI_inr hn h1 h2) d_SJ_write_13 (fun H locs hP hD hS => ?_)
      have hP : va_P D classes [(a, .inl (cI, n, .inl (upd f i.toNatClampNeg v)))] H := hP
      have hD : va_D A [(a, .inl (cI, n, .inl (upd f i.toNatClampNeg v)))] := hD
      refine W.vret hx hb hr (fun t ht hW => ⟨⟨(upd f i.toNatClampNeg v), rfl, ?_, ?_⟩, hS.F ht⟩) hS.2.2 d_SJ_write_14
      · first | (simp only [wr, h1, h2, if_true, if_false, eq_self, not_true_eq_false, not_false_eq_true, ne_eq]; done) | (simp only [wr, h1, h2, if_true, if_false, eq_self, not_true_eq_false, not_false_eq_true, ne_eq]; rfl) | (simp [wr, h1, h2]; done)
      · exact ⟨by rw [ht]; exact hP.sub [0] rfl, hD.sub [0] (by decide) rfl⟩
set_option maxHeartbeats 4000000 in
set_option maxRecDepth 100000 in
theorem c_Op_needs (l : Launch) (D : va_G) (cI cZ : ClassId) (tN tG : Nat) (op kd : Int32) : Met l y_Op_needs w_Op_needs (rmk 1) (va_Pc [.int op, .int kd] (PZ D cI cZ tN tG [])) (vp_Si (fun r => r = o_needs op kd)) 0 0 (fun _ => False) := by
  refine Met.ofW (cc := b_Op_needs) (maxL := 2) (ret := (some .int)) (by decide) rfl ?_
  intro p e s m args below meth c s₁ B hml hv
  obtain ⟨rfl, hP, hE, hZ⟩ := hv
  have hx := B.exec
  have hb := B.bytes
  have hr := B.returns
  have hts : ∀ w ∈ gW, w.before _ s = true := fun w h => atoms_spec (ws := w_Op_needs) B.pre w (List.mem_cons_of_mem _ h)
  have hown : s.vm.findClass R_Op = some m.cls := findClass_of_methodNamed B.named
  have hlocks := B.notSynchronized
  have hS : va_S (fun _ => False) s.heap s.heap [] := va_S.rf
  have hP : va_P D classes [] s.heap := hP
  have hl := lv_entry ([.int op, .int kd]) (n := 2) (Nat.le_of_ble_eq_true rfl)
  rw [lg_entry_eq]
  generalize (lg_sl ([.int op, .int kd]) ++ List.replicate (2 - (lg_sl ([.int op, .int kd])).length) Slot.unset).toArray = ls at hl ⊢
  have hl : lv_has ls 2 [(0, .int op), (1, .int kd)] := hl
  refine lv_iload_n hx hb d_Op_needs_0 rfl (lv_at hl 0 rfl) ?_
  refine lv_bipush (v := 17) hx hb d_Op_needs_1 (by decide) ?_
  refine lv_icmp_ne (tgt := 14) hx hb d_Op_needs_3 (by decide) (fun h1 => ?_) (fun h1 => ?_)
  · -- ¬ op = 17
    refine va_gets hx hb hZ.1 hS hown (hts _ k_210) (fun _ h9 => h9) d_Op_needs_14 ?_
    refine lv_iload_n hx hb d_Op_needs_17 rfl (lv_at hl 0 rfl) ?_
    refine vp_callSi (va_Run.run (va_runSN (As := [.ref tN, .int op]) (rest := []) ⟨hx, hb, hml, hown, hts⟩ (c_SJ_read l tN 19 tNeeds op (by decide)) ⟨va_cnB 2 hts (gd k_177) rfl rfl rfl (hE.2 _ nm_6) (hts _ k_18) (by decide +kernel) ⟨Nat.le_of_ble_eq_true rfl, Nat.le_of_ble_eq_true rfl⟩, hts _ k_176, trivial⟩ (rp_preT hZ.2.1 hS) rfl rfl hl.1 rfl (lv_room (Nat.le_of_ble_eq_true rfl)) d_Op_needs_18 ⟨Nat.zero_le _, Nat.zero_le _⟩)) (fun r hq => ?_)
    subst hq
    refine W.iret hx hb hr (fun t ht hW => ⟨_, rfl, ?_, ht⟩) (fun q h => by cases h) d_Op_needs_21
    show (rd tNeeds 19 op) = o_needs op kd
    first | (simp only [o_needs, h1, if_true, if_false, eq_self, not_true_eq_false, not_false_eq_true, ne_eq]; done) | (simp only [o_needs, h1, if_true, if_false, eq_self, not_true_eq_false, not_false_eq_true, ne_eq]; rfl) | (simp [o_needs, h1]; done)
  · -- op = 17
    refine lv_iload_n hx hb d_Op_needs_6 rfl (lv_at hl 1 rfl) ?_
    refine lv_if_ne (tgt := 14) hx hb d_Op_needs_7 (by decide) (fun h2 => ?_) (fun h2 => ?_)
    · -- ¬ kd = 0
      refine va_gets hx hb hZ.1 hS hown (hts _ k_210) (fun _ h9 => h9) d_Op_needs_14 ?_
      refine lv_iload_n hx hb d_Op_needs_17 rfl (lv_at hl 0 rfl) ?_
      refine vp_callSi (va_Run.run (va_runSN (As := [.ref tN, .int op]) (rest := []) ⟨hx, hb, hml, hown, hts⟩ (c_SJ_read l tN 19 tNeeds op (by decide)) ⟨va_cnB 2 hts (gd k_177) rfl rfl rfl (hE.2 _ nm_6) (hts _ k_18) (by decide +kernel) ⟨Nat.le_of_ble_eq_true rfl, Nat.le_of_ble_eq_true rfl⟩, hts _ k_176, trivial⟩ (rp_preT hZ.2.1 hS) rfl rfl hl.1 rfl (lv_room (Nat.le_of_ble_eq_true rfl)) d_Op_needs_18 ⟨Nat.zero_le _, Nat.zero_le _⟩)) (fun r hq => ?_)
      subst hq
      refine W.iret hx hb hr (fun t ht hW => ⟨_, rfl, ?_, ht⟩) (fun q h => by cases h) d_Op_needs_21
      show (rd tNeeds 19 op) = o_needs op kd
      first | (simp only [o_needs, h1, h2, if_true, if_false, eq_self, not_true_eq_false, not_false_eq_true, ne_eq]; done) | (simp only [o_needs, h1, h2, if_true, if_false, eq_self, not_true_eq_false, not_false_eq_true, ne_eq]; rfl) | (simp [o_needs, h1, h2]; done)
    · -- kd = 0
      refine lv_iconst (v := 0) hx hb d_Op_needs_10 (by decide) ?_
      refine lv_goto (tgt := 21) hx hb d_Op_needs_11 (by decide) ?_
      refine W.iret hx hb hr (fun t ht hW => ⟨_, rfl, ?_, ht⟩) (fun q h => by cases h) d_Op_needs_21
      show 0 = o_needs op kd
      first | (simp only [o_needs, h1, h2, if_true, if_false, eq_self, not_true_eq_false, not_false_eq_true, ne_eq]; done) | (simp only [o_needs, h1, h2, if_true, if_false, eq_self, not_true_eq_false, not_false_eq_true, ne_eq]; rfl) | (simp [o_needs, h1, h2]; done)
set_option maxHeartbeats 4000000 in
set_option maxRecDepth 100000 in
theorem c_Op_growth (l : Launch) (D : va_G) (cI cZ : ClassId) (tN tG : Nat) (op : Int32) : Met l y_Op_growth w_Op_growth (rmk 1) (va_Pc [.int op] (PZ D cI cZ tN tG [])) (vp_Si (fun r => r = o_grow op)) 0 0 (fun _ => False) := by
  refine Met.ofW (cc := b_Op_growth) (maxL := 1) (ret := (some .int)) (by decide) rfl ?_
  intro p e s m args below meth c s₁ B hml hv
  obtain ⟨rfl, hP, hE, hZ⟩ := hv
  have hx := B.exec
  have hb := B.bytes
  have hr := B.returns
  have hts : ∀ w ∈ gW, w.before _ s = true := fun w h => atoms_spec (ws := w_Op_growth) B.pre w (List.mem_cons_of_mem _ h)
  have hown : s.vm.findClass R_Op = some m.cls := findClass_of_methodNamed B.named
  have hlocks := B.notSynchronized
  have hS : va_S (fun _ => False) s.heap s.heap [] := va_S.rf
  have hP : va_P D classes [] s.heap := hP
  have hl := lv_entry ([.int op]) (n := 1) (Nat.le_of_ble_eq_true rfl)
  rw [lg_entry_eq]
  generalize (lg_sl ([.int op]) ++ List.replicate (1 - (lg_sl ([.int op])).length) Slot.unset).toArray = ls at hl ⊢
  have hl : lv_has ls 1 [(0, .int op)] := hl
  refine va_gets hx hb hZ.2.2.1 hS hown (hts _ k_216) (fun _ h9 => h9) d_Op_growth_0 ?_
  refine lv_iload_n hx hb d_Op_growth_3 rfl (lv_at hl 0 rfl) ?_
  refine vp_callSi (va_Run.run (va_runSN (As := [.ref tG, .int op]) (rest := []) ⟨hx, hb, hml, hown, hts⟩ (c_SJ_read l tG 19 tGrow op (by decide)) ⟨va_cnB 2 hts (gd k_177) rfl rfl rfl (hE.2 _ nm_6) (hts _ k_18) (by decide +kernel) ⟨Nat.le_of_ble_eq_true rfl, Nat.le_of_ble_eq_true rfl⟩, hts _ k_176, trivial⟩ (rp_preT hZ.2.2.2 hS) rfl rfl hl.1 rfl (lv_room (Nat.le_of_ble_eq_true rfl)) d_Op_growth_4 ⟨Nat.zero_le _, Nat.zero_le _⟩)) (fun r hq => ?_)
  subst hq
  refine W.iret hx hb hr (fun t ht hW => ⟨_, rfl, ?_, ht⟩) (fun q h => by cases h) d_Op_growth_7
  show (rd tGrow 19 op) = o_grow op
  first | (simp only [o_grow, if_true, if_false, eq_self, not_true_eq_false, not_false_eq_true, ne_eq]; done) | (simp only [o_grow, if_true, if_false, eq_self, not_true_eq_false, not_false_eq_true, ne_eq]; rfl) | (simp [o_grow]; done)
set_option maxHeartbeats 4000000 in
set_option maxRecDepth 100000 in
theorem c_Program_has (l : Launch) (D : va_G) (cI cZ : ClassId) (tN tG : Nat) (pr po pn : Nat) (kd sz ac : Int32) (fo fn : Nat → Int32) (k : Int32) : Met l y_Program_has w_Program_has (rmk 0) (va_Pc [.ref pr, .int k] (PZ D cI cZ tN tG [(pr, .inr (1, [.int kd, .int sz, .int ac, .ref po, .ref pn])), (po, .inl (cI, 64, .inl fo)), (pn, .inl (cI, 64, .inl fn))])) (vp_Si (fun r => r = p_has sz k)) 0 0 (fun _ => False) := by
  refine Met.ofW (cc := b_Program_has) (maxL := 2) (ret := (some .boolean)) (by decide) rfl ?_
  intro p e s m args below meth c s₁ B hml hv
  obtain ⟨rfl, hP, hE, hZ⟩ := hv
  have hx := B.exec
  have hb := B.bytes
  have hr := B.returns
  have hts : ∀ w ∈ gW, w.before _ s = true := fun w h => atoms_spec (ws := w_Program_has) B.pre w (List.mem_cons_of_mem _ h)
  have hown : s.vm.findClass R_Program = some m.cls := findClass_of_methodNamed B.named
  have hlocks := B.notSynchronized
  have hS : va_S (fun _ => False) s.heap s.heap [] := va_S.rf
  have hP : va_P D classes [(pr, .inr (1, [.int kd, .int sz, .int ac, .ref po, .ref pn])), (po, .inl (cI, 64, .inl fo)), (pn, .inl (cI, 64, .inl fn))] s.heap := hP
  have hl := lv_entry ([.ref pr, .int k]) (n := 2) (Nat.le_of_ble_eq_true rfl)
  rw [lg_entry_eq]
  generalize (lg_sl ([.ref pr, .int k]) ++ List.replicate (2 - (lg_sl ([.ref pr, .int k])).length) Slot.unset).toArray = ls at hl ⊢
  have hl : lv_has ls 2 [(0, .ref pr), (1, .int k)] := hl
  refine lv_iload_n hx hb d_Program_has_0 rfl (lv_at hl 1 rfl) ?_
  refine lv_if_lt (tgt := 16) hx hb d_Program_has_1 (by decide) (fun h1 => ?_) (fun h1 => ?_)
  · -- k < 0
    refine lv_iconst (v := 0) hx hb d_Program_has_16 (by decide) ?_
    refine W.zret hx hb hr (by decide) (fun t ht hW => ⟨_, rfl, ?_, ht⟩) (fun q h => by cases h) d_Program_has_17
    show 0 = p_has sz k
    first | (simp only [p_has, h1, if_true, if_false, eq_self, not_true_eq_false, not_false_eq_true, ne_eq]; done) | (simp only [p_has, h1, if_true, if_false, eq_self, not_true_eq_false, not_false_eq_true, ne_eq]; rfl) | (simp [p_has, h1]; done)
  · -- ¬ k < 0
    refine lv_iload_n hx hb d_Program_has_4 rfl (lv_at hl 1 rfl) ?_
    refine lv_aload_n hx hb d_Program_has_5 rfl (lv_at hl 0 rfl) ?_
    refine va_get (D := D) (ci := 1) (v := .int sz) (C := R_Program) (T := F_Program) (N := 5) hx hb hts in_Program hown hE.1 hP 0 rfl rfl 1 (by decide) (hts _ k_42) (fun _ h9 => h9) rfl d_Program_has_6 ?_
    refine lv_icmp_ge (tgt := 16) hx hb d_Program_has_9 (by decide) (fun h2 => ?_) (fun h2 => ?_)
    · -- sz ≤ k
      refine lv_iconst (v := 0) hx hb d_Program_has_16 (by decide) ?_
      refine W.zret hx hb hr (by decide) (fun t ht hW => ⟨_, rfl, ?_, ht⟩) (fun q h => by cases h) d_Program_has_17
      show 0 = p_has sz k
      first | (simp only [p_has, h1, h2, if_true, if_false, eq_self, not_true_eq_false, not_false_eq_true, ne_eq]; done) | (simp only [p_has, h1, h2, if_true, if_false, eq_self, not_true_eq_false, not_false_eq_true, ne_eq]; rfl) | (simp [p_has, h1, h2]; done)
    · -- ¬ sz ≤ k
      refine lv_iconst (v := 1) hx hb d_Program_has_12 (by decide) ?_
      refine lv_goto (tgt := 17) hx hb d_Program_has_13 (by decide) ?_
      refine W.zret hx hb hr (by decide) (fun t ht hW => ⟨_, rfl, ?_, ht⟩) (fun q h => by cases h) d_Program_has_17
      show 1 = p_has sz k
      first | (simp only [p_has, h1, h2, if_true, if_false, eq_self, not_true_eq_false, not_false_eq_true, ne_eq]; done) | (simp only [p_has, h1, h2, if_true, if_false, eq_self, not_true_eq_false, not_false_eq_true, ne_eq]; rfl) | (simp [p_has, h1, h2]; done)
set_option maxHeartbeats 4000000 in
set_option maxRecDepth 100000 in
theorem c_Program_opAt (l : Launch) (D : va_G) (cI cZ : ClassId) (tN tG : Nat) (pr po pn : Nat) (kd sz ac : Int32) (fo fn : Nat → Int32) (k : Int32) : Met l y_Program_opAt w_Program_opAt (rmk 1) (va_Pc [.ref pr, .int k] (PZ D cI cZ tN tG [(pr, .inr (1, [.int kd, .int sz, .int ac, .ref po, .ref pn])), (po, .inl (cI, 64, .inl fo)), (pn, .inl (cI, 64, .inl fn))])) (vp_Si (fun r => r = rd fo 64 k)) 0 0 (fun _ => False) := by
  refine Met.ofW (cc := b_Program_opAt) (maxL := 2) (ret := (some .int)) (by decide) rfl ?_
  intro p e s m args below meth c s₁ B hml hv
  obtain ⟨rfl, hP, hE, hZ⟩ := hv
  have hx := B.exec
  have hb := B.bytes
  have hr := B.returns
  have hts : ∀ w ∈ gW, w.before _ s = true := fun w h => atoms_spec (ws := w_Program_opAt) B.pre w (List.mem_cons_of_mem _ h)
  have hown : s.vm.findClass R_Program = some m.cls := findClass_of_methodNamed B.named
  have hlocks := B.notSynchronized
  have hS : va_S (fun _ => False) s.heap s.heap [] := va_S.rf
  have hP : va_P D classes [(pr, .inr (1, [.int kd, .int sz, .int ac, .ref po, .ref pn])), (po, .inl (cI, 64, .inl fo)), (pn, .inl (cI, 64, .inl fn))] s.heap := hP
  have hl := lv_entry ([.ref pr, .int k]) (n := 2) (Nat.le_of_ble_eq_true rfl)
  rw [lg_entry_eq]
  generalize (lg_sl ([.ref pr, .int k]) ++ List.replicate (2 - (lg_sl ([.ref pr, .int k])).length) Slot.unset).toArray = ls at hl ⊢
  have hl : lv_has ls 2 [(0, .ref pr), (1, .int k)] := hl
  refine lv_aload_n hx hb d_Program_opAt_0 rfl (lv_at hl 0 rfl) ?_
  refine va_get (D := D) (ci := 1) (v := .ref po) (C := R_Program) (T := F_Program) (N := 5) hx hb hts in_Program hown hE.1 hP 0 rfl rfl 3 (by decide) (hts _ k_46) (fun _ h9 => h9) rfl d_Program_opAt_1 ?_
  refine lv_iload_n hx hb d_Program_opAt_4 rfl (lv_at hl 1 rfl) ?_
  refine vp_callSi (va_Run.run (va_runSN (As := [.ref po, .int k]) (rest := []) ⟨hx, hb, hml, hown, hts⟩ (c_SJ_read l po 64 fo k (by decide)) ⟨va_cnB 2 hts (gd k_177) rfl rfl rfl (hE.2 _ nm_5) (hts _ k_18) (by decide +kernel) ⟨Nat.le_of_ble_eq_true rfl, Nat.le_of_ble_eq_true rfl⟩, hts _ k_176, trivial⟩ (rp_pre hE.1 hP 1 0 rfl rfl) rfl rfl hl.1 rfl (lv_room (Nat.le_of_ble_eq_true rfl)) d_Program_opAt_5 ⟨Nat.zero_le _, Nat.zero_le _⟩)) (fun r hq => ?_)
  subst hq
  refine W.iret hx hb hr (fun t ht hW => ⟨_, rfl, ?_, ht⟩) (fun q h => by cases h) d_Program_opAt_8
  show (rd fo 64 k) = rd fo 64 k
  first | (simp only [if_true, if_false, eq_self, not_true_eq_false, not_false_eq_true, ne_eq]; done) | (simp only [if_true, if_false, eq_self, not_true_eq_false, not_false_eq_true, ne_eq]; rfl) | (simp []; done)
set_option maxHeartbeats 4000000 in
set_option maxRecDepth 100000 in
theorem c_Program_nAt (l : Launch) (D : va_G) (cI cZ : ClassId) (tN tG : Nat) (pr po pn : Nat) (kd sz ac : Int32) (fo fn : Nat → Int32) (k : Int32) : Met l y_Program_nAt w_Program_nAt (rmk 1) (va_Pc [.ref pr, .int k] (PZ D cI cZ tN tG [(pr, .inr (1, [.int kd, .int sz, .int ac, .ref po, .ref pn])), (po, .inl (cI, 64, .inl fo)), (pn, .inl (cI, 64, .inl fn))])) (vp_Si (fun r => r = rd fn 64 k)) 0 0 (fun _ => False) := by
  refine Met.ofW (cc := b_Program_nAt) (maxL := 2) (ret := (some .int)) (by decide) rfl ?_
  intro p e s m args below meth c s₁ B hml hv
  obtain ⟨rfl, hP, hE, hZ⟩ := hv
  have hx := B.exec
  have hb := B.bytes
  have hr := B.returns
  have hts : ∀ w ∈ gW, w.before _ s = true := fun w h => atoms_spec (ws := w_Program_nAt) B.pre w (List.mem_cons_of_mem _ h)
  have hown : s.vm.findClass R_Program = some m.cls := findClass_of_methodNamed B.named
  have hlocks := B.notSynchronized
  have hS : va_S (fun _ => False) s.heap s.heap [] := va_S.rf
  have hP : va_P D classes [(pr, .inr (1, [.int kd, .int sz, .int ac, .ref po, .ref pn])), (po, .inl (cI, 64, .inl fo)), (pn, .inl (cI, 64, .inl fn))] s.heap := hP
  have hl := lv_entry ([.ref pr, .int k]) (n := 2) (Nat.le_of_ble_eq_true rfl)
  rw [lg_entry_eq]
  generalize (lg_sl ([.ref pr, .int k]) ++ List.replicate (2 - (lg_sl ([.ref pr, .int k])).length) Slot.unset).toArray = ls at hl ⊢
  have hl : lv_has ls 2 [(0, .ref pr), (1, .int k)] := hl
  refine lv_aload_n hx hb d_Program_nAt_0 rfl (lv_at hl 0 rfl) ?_
  refine va_get (D := D) (ci := 1) (v := .ref pn) (C := R_Program) (T := F_Program) (N := 5) hx hb hts in_Program hown hE.1 hP 0 rfl rfl 4 (by decide) (hts _ k_47) (fun _ h9 => h9) rfl d_Program_nAt_1 ?_
  refine lv_iload_n hx hb d_Program_nAt_4 rfl (lv_at hl 1 rfl) ?_
  refine vp_callSi (va_Run.run (va_runSN (As := [.ref pn, .int k]) (rest := []) ⟨hx, hb, hml, hown, hts⟩ (c_SJ_read l pn 64 fn k (by decide)) ⟨va_cnB 2 hts (gd k_177) rfl rfl rfl (hE.2 _ nm_5) (hts _ k_18) (by decide +kernel) ⟨Nat.le_of_ble_eq_true rfl, Nat.le_of_ble_eq_true rfl⟩, hts _ k_176, trivial⟩ (rp_pre hE.1 hP 2 0 rfl rfl) rfl rfl hl.1 rfl (lv_room (Nat.le_of_ble_eq_true rfl)) d_Program_nAt_5 ⟨Nat.zero_le _, Nat.zero_le _⟩)) (fun r hq => ?_)
  subst hq
  refine W.iret hx hb hr (fun t ht hW => ⟨_, rfl, ?_, ht⟩) (fun q h => by cases h) d_Program_nAt_8
  show (rd fn 64 k) = rd fn 64 k
  first | (simp only [if_true, if_false, eq_self, not_true_eq_false, not_false_eq_true, ne_eq]; done) | (simp only [if_true, if_false, eq_self, not_true_eq_false, not_false_eq_true, ne_eq]; rfl) | (simp []; done)
set_option maxHeartbeats 4000000 in
set_option maxRecDepth 100000 in
theorem c_Program_limitOfN (l : Launch) (D : va_G) (cI cZ : ClassId) (tN tG : Nat) (pr po pn : Nat) (kd sz ac : Int32) (fo fn : Nat → Int32) (op : Int32) : Met l y_Program_limitOfN w_Program_limitOfN (rmk 0) (va_Pc [.ref pr, .int op] (PZ D cI cZ tN tG [(pr, .inr (1, [.int kd, .int sz, .int ac, .ref po, .ref pn])), (po, .inl (cI, 64, .inl fo)), (pn, .inl (cI, 64, .inl fn))])) (vp_Si (fun r => r = p_lim ac sz op)) 0 0 (fun _ => False) := by
  refine Met.ofW (cc := b_Program_limitOfN) (maxL := 2) (ret := (some .int)) (by decide) rfl ?_
  intro p e s m args below meth c s₁ B hml hv
  obtain ⟨rfl, hP, hE, hZ⟩ := hv
  have hx := B.exec
  have hb := B.bytes
  have hr := B.returns
  have hts : ∀ w ∈ gW, w.before _ s = true := fun w h => atoms_spec (ws := w_Program_limitOfN) B.pre w (List.mem_cons_of_mem _ h)
  have hown : s.vm.findClass R_Program = some m.cls := findClass_of_methodNamed B.named
  have hlocks := B.notSynchronized
  have hS : va_S (fun _ => False) s.heap s.heap [] := va_S.rf
  have hP : va_P D classes [(pr, .inr (1, [.int kd, .int sz, .int ac, .ref po, .ref pn])), (po, .inl (cI, 64, .inl fo)), (pn, .inl (cI, 64, .inl fn))] s.heap := hP
  have hl := lv_entry ([.ref pr, .int op]) (n := 2) (Nat.le_of_ble_eq_true rfl)
  rw [lg_entry_eq]
  generalize (lg_sl ([.ref pr, .int op]) ++ List.replicate (2 - (lg_sl ([.ref pr, .int op])).length) Slot.unset).toArray = ls at hl ⊢
  have hl : lv_has ls 2 [(0, .ref pr), (1, .int op)] := hl
  refine lv_iload_n hx hb d_Program_limitOfN_0 rfl (lv_at hl 1 rfl) ?_
  rcases (by omega : (Int32.toInt op < 1 ∨ 15 < Int32.toInt op) ∨ Int32.toInt op = 1 ∨ Int32.toInt op = 2 ∨ Int32.toInt op = 3 ∨ Int32.toInt op = 4 ∨ Int32.toInt op = 5 ∨ Int32.toInt op = 6 ∨ Int32.toInt op = 7 ∨ Int32.toInt op = 8 ∨ Int32.toInt op = 9 ∨ Int32.toInt op = 10 ∨ Int32.toInt op = 11 ∨ Int32.toInt op = 12 ∨ Int32.toInt op = 13 ∨ Int32.toInt op = 14 ∨ Int32.toInt op = 15) with h1 | h1 | h1 | h1 | h1 | h1 | h1 | h1 | h1 | h1 | h1 | h1 | h1 | h1 | h1 | h1
  · -- default
    refine lv_tableOut (tgt := 88) hx hb d_Program_limitOfN_1 h1 (by decide) ?_
    refine lv_iconst (v := (-1)) hx hb d_Program_limitOfN_88 (by decide) ?_
    refine W.iret hx hb hr (fun t ht hW => ⟨_, rfl, ?_, ht⟩) (fun q h => by cases h) d_Program_limitOfN_89
    show (-1) = p_lim ac sz op
    (have g1 := sw_ne (k := 1) h1 (by decide); have g2 := sw_ne (k := 2) h1 (by decide); have g3 := sw_ne (k := 3) h1 (by decide); have g14 := sw_ne (k := 14) h1 (by decide); have g15 := sw_ne (k := 15) h1 (by decide); simp only [p_lim, g1, g2, g3, g14, g15, if_true, if_false, eq_self, not_true_eq_false, not_false_eq_true, ne_eq])
  · -- case 1
    have h1 : op = 1 := Int32.toInt_inj.mp (by rw [h1]; decide)
    subst h1
    refine lv_tableIn (tgt := 76) (off := 75) hx hb d_Program_limitOfN_1 (by decide) (by decide) (by decide +kernel) (by decide) ?_
    refine lv_aload_n hx hb d_Program_limitOfN_76 rfl (lv_at hl 0 rfl) ?_
    refine va_get (D := D) (ci := 1) (v := .int ac) (C := R_Program) (T := F_Program) (N := 5) hx hb hts in_Program hown hE.1 hP 0 rfl rfl 2 (by decide) (hts _ k_45) (fun _ h9 => h9) rfl d_Program_limitOfN_77 ?_
    refine W.iret hx hb hr (fun t ht hW => ⟨_, rfl, ?_, ht⟩) (fun q h => by cases h) d_Program_limitOfN_80
    show ac = p_lim ac sz 1
    rfl
  · -- case 2
    have h1 : op = 2 := Int32.toInt_inj.mp (by rw [h1]; decide)
    subst h1
    refine lv_tableIn (tgt := 81) (off := 80) hx hb d_Program_limitOfN_1 (by decide) (by decide) (by decide +kernel) (by decide) ?_
    refine lv_iconst (v := 4) hx hb d_Program_limitOfN_81 (by decide) ?_
    refine W.iret hx hb hr (fun t ht hW => ⟨_, rfl, ?_, ht⟩) (fun q h => by cases h) d_Program_limitOfN_82
    show 4 = p_lim ac sz 2
    rfl
  · -- case 3
    have h1 : op = 3 := Int32.toInt_inj.mp (by rw [h1]; decide)
    subst h1
    refine lv_tableIn (tgt := 81) (off := 80) hx hb d_Program_limitOfN_1 (by decide) (by decide) (by decide +kernel) (by decide) ?_
    refine lv_iconst (v := 4) hx hb d_Program_limitOfN_81 (by decide) ?_
    refine W.iret hx hb hr (fun t ht hW => ⟨_, rfl, ?_, ht⟩) (fun q h => by cases h) d_Program_limitOfN_82
    show 4 = p_lim ac sz 3
    rfl
  · -- case 4
    have h1 : op = 4 := Int32.toInt_inj.mp (by rw [h1]; decide)
    subst h1
    refine lv_tableIn (tgt := 88) (off := 87) hx hb d_Program_limitOfN_1 (by decide) (by decide) (by decide +kernel) (by decide) ?_
    refine lv_iconst (v := (-1)) hx hb d_Program_limitOfN_88 (by decide) ?_
    refine W.iret hx hb hr (fun t ht hW => ⟨_, rfl, ?_, ht⟩) (fun q h => by cases h) d_Program_limitOfN_89
    show (-1) = p_lim ac sz 4
    rfl
  · -- case 5
    have h1 : op = 5 := Int32.toInt_inj.mp (by rw [h1]; decide)
    subst h1
    refine lv_tableIn (tgt := 88) (off := 87) hx hb d_Program_limitOfN_1 (by decide) (by decide) (by decide +kernel) (by decide) ?_
    refine lv_iconst (v := (-1)) hx hb d_Program_limitOfN_88 (by decide) ?_
    refine W.iret hx hb hr (fun t ht hW => ⟨_, rfl, ?_, ht⟩) (fun q h => by cases h) d_Program_limitOfN_89
    show (-1) = p_lim ac sz 5
    rfl
  · -- case 6
    have h1 : op = 6 := Int32.toInt_inj.mp (by rw [h1]; decide)
    subst h1
    refine lv_tableIn (tgt := 88) (off := 87) hx hb d_Program_limitOfN_1 (by decide) (by decide) (by decide +kernel) (by decide) ?_
    refine lv_iconst (v := (-1)) hx hb d_Program_limitOfN_88 (by decide) ?_
    refine W.iret hx hb hr (fun t ht hW => ⟨_, rfl, ?_, ht⟩) (fun q h => by cases h) d_Program_limitOfN_89
    show (-1) = p_lim ac sz 6
    rfl
  · -- case 7
    have h1 : op = 7 := Int32.toInt_inj.mp (by rw [h1]; decide)
    subst h1
    refine lv_tableIn (tgt := 88) (off := 87) hx hb d_Program_limitOfN_1 (by decide) (by decide) (by decide +kernel) (by decide) ?_
    refine lv_iconst (v := (-1)) hx hb d_Program_limitOfN_88 (by decide) ?_
    refine W.iret hx hb hr (fun t ht hW => ⟨_, rfl, ?_, ht⟩) (fun q h => by cases h) d_Program_limitOfN_89
    show (-1) = p_lim ac sz 7
    rfl
  · -- case 8
    have h1 : op = 8 := Int32.toInt_inj.mp (by rw [h1]; decide)
    subst h1
    refine lv_tableIn (tgt := 88) (off := 87) hx hb d_Program_limitOfN_1 (by decide) (by decide) (by decide +kernel) (by decide) ?_
    refine lv_iconst (v := (-1)) hx hb d_Program_limitOfN_88 (by decide) ?_
    refine W.iret hx hb hr (fun t ht hW => ⟨_, rfl, ?_, ht⟩) (fun q h => by cases h) d_Program_limitOfN_89
    show (-1) = p_lim ac sz 8
    rfl
  · -- case 9
    have h1 : op = 9 := Int32.toInt_inj.mp (by rw [h1]; decide)
    subst h1
    refine lv_tableIn (tgt := 88) (off := 87) hx hb d_Program_limitOfN_1 (by decide) (by decide) (by decide +kernel) (by decide) ?_
    refine lv_iconst (v := (-1)) hx hb d_Program_limitOfN_88 (by decide) ?_
    refine W.iret hx hb hr (fun t ht hW => ⟨_, rfl, ?_, ht⟩) (fun q h => by cases h) d_Program_limitOfN_89
    show (-1) = p_lim ac sz 9
    rfl
  · -- case 10
    have h1 : op = 10 := Int32.toInt_inj.mp (by rw [h1]; decide)
    subst h1
    refine lv_tableIn (tgt := 88) (off := 87) hx hb d_Program_limitOfN_1 (by decide) (by decide) (by decide +kernel) (by decide) ?_
    refine lv_iconst (v := (-1)) hx hb d_Program_limitOfN_88 (by decide) ?_
    refine W.iret hx hb hr (fun t ht hW => ⟨_, rfl, ?_, ht⟩) (fun q h => by cases h) d_Program_limitOfN_89
    show (-1) = p_lim ac sz 10
    rfl
  · -- case 11
    have h1 : op = 11 := Int32.toInt_inj.mp (by rw [h1]; decide)
    subst h1
    refine lv_tableIn (tgt := 88) (off := 87) hx hb d_Program_limitOfN_1 (by decide) (by decide) (by decide +kernel) (by decide) ?_
    refine lv_iconst (v := (-1)) hx hb d_Program_limitOfN_88 (by decide) ?_
    refine W.iret hx hb hr (fun t ht hW => ⟨_, rfl, ?_, ht⟩) (fun q h => by cases h) d_Program_limitOfN_89
    show (-1) = p_lim ac sz 11
    rfl
  · -- case 12
    have h1 : op = 12 := Int32.toInt_inj.mp (by rw [h1]; decide)
    subst h1
    refine lv_tableIn (tgt := 88) (off := 87) hx hb d_Program_limitOfN_1 (by decide) (by decide) (by decide +kernel) (by decide) ?_
    refine lv_iconst (v := (-1)) hx hb d_Program_limitOfN_88 (by decide) ?_
    refine W.iret hx hb hr (fun t ht hW => ⟨_, rfl, ?_, ht⟩) (fun q h => by cases h) d_Program_limitOfN_89
    show (-1) = p_lim ac sz 12
    rfl
  · -- case 13
    have h1 : op = 13 := Int32.toInt_inj.mp (by rw [h1]; decide)
    subst h1
    refine lv_tableIn (tgt := 88) (off := 87) hx hb d_Program_limitOfN_1 (by decide) (by decide) (by decide +kernel) (by decide) ?_
    refine lv_iconst (v := (-1)) hx hb d_Program_limitOfN_88 (by decide) ?_
    refine W.iret hx hb hr (fun t ht hW => ⟨_, rfl, ?_, ht⟩) (fun q h => by cases h) d_Program_limitOfN_89
    show (-1) = p_lim ac sz 13
    rfl
  · -- case 14
    have h1 : op = 14 := Int32.toInt_inj.mp (by rw [h1]; decide)
    subst h1
    refine lv_tableIn (tgt := 83) (off := 82) hx hb d_Program_limitOfN_1 (by decide) (by decide) (by decide +kernel) (by decide) ?_
    refine lv_aload_n hx hb d_Program_limitOfN_83 rfl (lv_at hl 0 rfl) ?_
    refine va_get (D := D) (ci := 1) (v := .int sz) (C := R_Program) (T := F_Program) (N := 5) hx hb hts in_Program hown hE.1 hP 0 rfl rfl 1 (by decide) (hts _ k_42) (fun _ h9 => h9) rfl d_Program_limitOfN_84 ?_
    refine W.iret hx hb hr (fun t ht hW => ⟨_, rfl, ?_, ht⟩) (fun q h => by cases h) d_Program_limitOfN_87
    show sz = p_lim ac sz 14
    rfl
  · -- case 15
    have h1 : op = 15 := Int32.toInt_inj.mp (by rw [h1]; decide)
    subst h1
    refine lv_tableIn (tgt := 83) (off := 82) hx hb d_Program_limitOfN_1 (by decide) (by decide) (by decide +kernel) (by decide) ?_
    refine lv_aload_n hx hb d_Program_limitOfN_83 rfl (lv_at hl 0 rfl) ?_
    refine va_get (D := D) (ci := 1) (v := .int sz) (C := R_Program) (T := F_Program) (N := 5) hx hb hts in_Program hown hE.1 hP 0 rfl rfl 1 (by decide) (hts _ k_42) (fun _ h9 => h9) rfl d_Program_limitOfN_84 ?_
    refine W.iret hx hb hr (fun t ht hW => ⟨_, rfl, ?_, ht⟩) (fun q h => by cases h) d_Program_limitOfN_87
    show sz = p_lim ac sz 15
    rfl
set_option maxHeartbeats 4000000 in
set_option maxRecDepth 100000 in
theorem c_Program_isWellFormed (l : Launch) (D : va_G) (cI cZ : ClassId) (tN tG : Nat) (pr po pn : Nat) (kd sz ac : Int32) (fo fn : Nat → Int32) (k : Int32) : Met l y_Program_isWellFormed w_Program_isWellFormed (rmk 1) (va_Pc [.ref pr, .int k] (PZ D cI cZ tN tG [(pr, .inr (1, [.int kd, .int sz, .int ac, .ref po, .ref pn])), (po, .inl (cI, 64, .inl fo)), (pn, .inl (cI, 64, .inl fn))])) (vp_Si (fun r => r = p_wf kd sz ac fo fn k)) 0 0 (fun _ => False) := by
  refine Met.ofW (cc := b_Program_isWellFormed) (maxL := 5) (ret := (some .boolean)) (by decide) rfl ?_
  intro p e s m args below meth c s₁ B hml hv
  obtain ⟨rfl, hP, hE, hZ⟩ := hv
  have hx := B.exec
  have hb := B.bytes
  have hr := B.returns
  have hts : ∀ w ∈ gW, w.before _ s = true := fun w h => atoms_spec (ws := w_Program_isWellFormed) B.pre w (List.mem_cons_of_mem _ h)
  have hown : s.vm.findClass R_Program = some m.cls := findClass_of_methodNamed B.named
  have hlocks := B.notSynchronized
  have hS : va_S (fun _ => False) s.heap s.heap [] := va_S.rf
  have hP : va_P D classes [(pr, .inr (1, [.int kd, .int sz, .int ac, .ref po, .ref pn])), (po, .inl (cI, 64, .inl fo)), (pn, .inl (cI, 64, .inl fn))] s.heap := hP
  have hl := lv_entry ([.ref pr, .int k]) (n := 5) (Nat.le_of_ble_eq_true rfl)
  rw [lg_entry_eq]
  generalize (lg_sl ([.ref pr, .int k]) ++ List.replicate (5 - (lg_sl ([.ref pr, .int k])).length) Slot.unset).toArray = ls at hl ⊢
  have hl : lv_has ls 5 [(0, .ref pr), (1, .int k)] := hl
  refine lv_aload_n hx hb d_Program_isWellFormed_0 rfl (lv_at hl 0 rfl) ?_
  refine va_get (D := D) (ci := 1) (v := .ref po) (C := R_Program) (T := F_Program) (N := 5) hx hb hts in_Program hown hE.1 hP 0 rfl rfl 3 (by decide) (hts _ k_46) (fun _ h9 => h9) rfl d_Program_isWellFormed_1 ?_
  refine lv_iload_n hx hb d_Program_isWellFormed_4 rfl (lv_at hl 1 rfl) ?_
  refine vp_callSi (va_Run.run (va_runSN (As := [.ref po, .int k]) (rest := []) ⟨hx, hb, hml, hown, hts⟩ (c_SJ_read l po 64 fo k (by decide)) ⟨va_cnB 2 hts (gd k_177) rfl rfl rfl (hE.2 _ nm_5) (hts _ k_18) (by decide +kernel) ⟨Nat.le_of_ble_eq_true rfl, Nat.le_of_ble_eq_true rfl⟩, hts _ k_176, trivial⟩ (rp_pre hE.1 hP 1 0 rfl rfl) rfl rfl hl.1 rfl (lv_room (Nat.le_of_ble_eq_true rfl)) d_Program_isWellFormed_5 ⟨Nat.zero_le _, Nat.zero_le _⟩)) (fun r hq => ?_)
  subst hq
  refine lv_istore_n hx hb d_Program_isWellFormed_8 rfl hl (by decide) rfl (fun ls hl => ?_)
  have hl : lv_has ls 5 [(2, .int (rd fo 64 k)), (0, .ref pr), (1, .int k)] := hl
  refine lv_aload_n hx hb d_Program_isWellFormed_9 rfl (lv_at hl 1 rfl) ?_
  refine va_get (D := D) (ci := 1) (v := .ref pn) (C := R_Program) (T := F_Program) (N := 5) hx hb hts in_Program hown hE.1 hP 0 rfl rfl 4 (by decide) (hts _ k_47) (fun _ h9 => h9) rfl d_Program_isWellFormed_10 ?_
  refine lv_iload_n hx hb d_Program_isWellFormed_13 rfl (lv_at hl 2 rfl) ?_
  refine vp_callSi (va_Run.run (va_runSN (As := [.ref pn, .int k]) (rest := []) ⟨hx, hb, hml, hown, hts⟩ (c_SJ_read l pn 64 fn k (by decide)) ⟨va_cnB 2 hts (gd k_177) rfl rfl rfl (hE.2 _ nm_5) (hts _ k_18) (by decide +kernel) ⟨Nat.le_of_ble_eq_true rfl, Nat.le_of_ble_eq_true rfl⟩, hts _ k_176, trivial⟩ (rp_pre hE.1 hP 2 0 rfl rfl) rfl rfl hl.1 rfl (lv_room (Nat.le_of_ble_eq_true rfl)) d_Program_isWellFormed_14 ⟨Nat.zero_le _, Nat.zero_le _⟩)) (fun r hq => ?_)
  subst hq
  refine lv_istore_n hx hb d_Program_isWellFormed_17 rfl hl (by decide) rfl (fun ls hl => ?_)
  have hl : lv_has ls 5 [(3, .int (rd fn 64 k)), (2, .int (rd fo 64 k)), (0, .ref pr), (1, .int k)] := hl
  refine lv_aload_n hx hb d_Program_isWellFormed_18 rfl (lv_at hl 2 rfl) ?_
  refine lv_iload_n hx hb d_Program_isWellFormed_19 rfl (lv_at hl 1 rfl) ?_
  refine vp_callSi (va_Run.run (va_runV (As := [.int (rd fo 64 k)]) (rest := []) ⟨hx, hb, hml, hown, hts⟩ (c_Program_limitOfN l D cI cZ tN tG pr po pn kd sz ac fo fn (rd fo 64 k)) (cwV 1 hts (gd4 k_196 k_198 k_3 k_19 k_199) rfl rfl rfl (by decide +kernel) ⟨Nat.le_of_ble_eq_true rfl, Nat.le_of_ble_eq_true rfl⟩) ⟨PZ_blind, va_recv (q0 := 0) (ci := 1) hE.1 hP rfl rfl, pz_pre hE hZ hS (hP.sub [0, 1, 2] rfl)⟩ rfl rfl hl.1 rfl (lv_room (Nat.le_of_ble_eq_true rfl)) d_Program_isWellFormed_20 ⟨Nat.zero_le _, Nat.zero_le _⟩)) (fun r hq => ?_)
  subst hq
  refine lv_istore hx hb d_Program_isWellFormed_23 hl (by decide) rfl (fun ls hl => ?_)
  have hl : lv_has ls 5 [(4, .int (p_lim ac sz (rd fo 64 k))), (3, .int (rd fn 64 k)), (2, .int (rd fo 64 k)), (0, .ref pr), (1, .int k)] := hl
  refine lv_iload_n hx hb d_Program_isWellFormed_25 rfl (lv_at hl 2 rfl) ?_
  refine lv_aload_n hx hb d_Program_isWellFormed_26 rfl (lv_at hl 3 rfl) ?_
  refine va_get (D := D) (ci := 1) (v := .int kd) (C := R_Program) (T := F_Program) (N := 5) hx hb hts in_Program hown hE.1 hP 0 rfl rfl 0 (by decide) (hts _ k_40) (fun _ h9 => h9) rfl d_Program_isWellFormed_27 ?_
  refine vp_callSi (va_Run.run (va_runS (As := [.int (rd fo 64 k), .int kd]) (rest := []) ⟨hx, hb, hml, hown, hts⟩ (c_Op_isOf l (rd fo 64 k) kd) (va_cwS 2 hts (gd3 k_200 k_201 k_24 k_202) rfl rfl rfl (by decide +kernel) ⟨Nat.le_of_ble_eq_true rfl, Nat.le_of_ble_eq_true rfl⟩) ⟨fun _ _ _ _ q => q, fun _ _ _ => ⟨rfl, trivial⟩⟩ rfl rfl hl.1 rfl (lv_room (Nat.le_of_ble_eq_true rfl)) d_Program_isWellFormed_30 ⟨Nat.zero_le _, Nat.zero_le _⟩)) (fun r hq => ?_)
  subst hq
  refine lv_if_eq (tgt := 56) hx hb d_Program_isWellFormed_33 (by decide) (fun h1 => ?_) (fun h1 => ?_)
  · -- (o_isOf (rd fo 64 k) kd) = 0
    refine lv_iconst (v := 0) hx hb d_Program_isWellFormed_56 (by decide) ?_
    refine W.zret hx hb hr (by decide) (fun t ht hW => ⟨_, rfl, ?_, ht⟩) (fun q h => by cases h) d_Program_isWellFormed_57
    show 0 = p_wf kd sz ac fo fn k
    first | (simp only [p_wf, h1, if_true, if_false, eq_self, not_true_eq_false, not_false_eq_true, ne_eq]; done) | (simp only [p_wf, h1, if_true, if_false, eq_self, not_true_eq_false, not_false_eq_true, ne_eq]; rfl) | (simp [p_wf, h1]; done)
  · -- ¬ (o_isOf (rd fo 64 k) kd) = 0
    refine lv_iload hx hb d_Program_isWellFormed_36 (lv_at hl 0 rfl) ?_
    refine lv_iconst (v := (-1)) hx hb d_Program_isWellFormed_38 (by decide) ?_
    refine lv_icmp_eq (tgt := 52) hx hb d_Program_isWellFormed_39 (by decide) (fun h2 => ?_) (fun h2 => ?_)
    · -- (p_lim ac sz (rd fo 64 k)) = (-1)
      refine lv_iconst (v := 1) hx hb d_Program_isWellFormed_52 (by decide) ?_
      refine lv_goto (tgt := 57) hx hb d_Program_isWellFormed_53 (by decide) ?_
      refine W.zret hx hb hr (by decide) (fun t ht hW => ⟨_, rfl, ?_, ht⟩) (fun q h => by cases h) d_Program_isWellFormed_57
      show 1 = p_wf kd sz ac fo fn k
      first | (simp only [p_wf, h1, h2, if_true, if_false, eq_self, not_true_eq_false, not_false_eq_true, ne_eq]; done) | (simp only [p_wf, h1, h2, if_true, if_false, eq_self, not_true_eq_false, not_false_eq_true, ne_eq]; rfl) | (simp [p_wf, h1, h2]; done)
    · -- ¬ (p_lim ac sz (rd fo 64 k)) = (-1)
      refine lv_iload_n hx hb d_Program_isWellFormed_42 rfl (lv_at hl 1 rfl) ?_
      refine lv_if_lt (tgt := 56) hx hb d_Program_isWellFormed_43 (by decide) (fun h3 => ?_) (fun h3 => ?_)
      · -- (rd fn 64 k) < 0
        refine lv_iconst (v := 0) hx hb d_Program_isWellFormed_56 (by decide) ?_
        refine W.zret hx hb hr (by decide) (fun t ht hW => ⟨_, rfl, ?_, ht⟩) (fun q h => by cases h) d_Program_isWellFormed_57
        show 0 = p_wf kd sz ac fo fn k
        first | (simp only [p_wf, h1, h2, h3, if_true, if_false, eq_self, not_true_eq_false, not_false_eq_true, ne_eq]; done) | (simp only [p_wf, h1, h2, h3, if_true, if_false, eq_self, not_true_eq_false, not_false_eq_true, ne_eq]; rfl) | (simp [p_wf, h1, h2, h3]; done)
      · -- ¬ (rd fn 64 k) < 0
        refine lv_iload_n hx hb d_Program_isWellFormed_46 rfl (lv_at hl 1 rfl) ?_
        refine lv_iload hx hb d_Program_isWellFormed_47 (lv_at hl 0 rfl) ?_
        refine lv_icmp_ge (tgt := 56) hx hb d_Program_isWellFormed_49 (by decide) (fun h4 => ?_) (fun h4 => ?_)
        · -- (p_lim ac sz (rd fo 64 k)) ≤ (rd fn 64 k)
          refine lv_iconst (v := 0) hx hb d_Program_isWellFormed_56 (by decide) ?_
          refine W.zret hx hb hr (by decide) (fun t ht hW => ⟨_, rfl, ?_, ht⟩) (fun q h => by cases h) d_Program_isWellFormed_57
          show 0 = p_wf kd sz ac fo fn k
          first | (simp only [p_wf, h1, h2, h3, h4, if_true, if_false, eq_self, not_true_eq_false, not_false_eq_true, ne_eq]; done) | (simp only [p_wf, h1, h2, h3, h4, if_true, if_false, eq_self, not_true_eq_false, not_false_eq_true, ne_eq]; rfl) | (simp [p_wf, h1, h2, h3, h4]; done)
        · -- ¬ (p_lim ac sz (rd fo 64 k)) ≤ (rd fn 64 k)
          refine lv_iconst (v := 1) hx hb d_Program_isWellFormed_52 (by decide) ?_
          refine lv_goto (tgt := 57) hx hb d_Program_isWellFormed_53 (by decide) ?_
          refine W.zret hx hb hr (by decide) (fun t ht hW => ⟨_, rfl, ?_, ht⟩) (fun q h => by cases h) d_Program_isWellFormed_57
          show 1 = p_wf kd sz ac fo fn k
          first | (simp only [p_wf, h1, h2, h3, h4, if_true, if_false, eq_self, not_true_eq_false, not_false_eq_true, ne_eq]; done) | (simp only [p_wf, h1, h2, h3, h4, if_true, if_false, eq_self, not_true_eq_false, not_false_eq_true, ne_eq]; rfl) | (simp [p_wf, h1, h2, h3, h4]; done)
set_option maxHeartbeats 4000000 in
set_option maxRecDepth 100000 in
theorem c_Program_canBeDone (l : Launch) (D : va_G) (cI cZ : ClassId) (tN tG : Nat) (pr po pn : Nat) (kd sz ac : Int32) (fo fn : Nat → Int32) (k h : Int32) : Met l y_Program_canBeDone w_Program_canBeDone (rmk 2) (va_Pc [.ref pr, .int k, .int h] (PZ D cI cZ tN tG [(pr, .inr (1, [.int kd, .int sz, .int ac, .ref po, .ref pn])), (po, .inl (cI, 64, .inl fo)), (pn, .inl (cI, 64, .inl fn))])) (vp_Si (fun r => r = p_cbd kd sz ac fo fn k h)) 0 0 (fun _ => False) := by
  refine Met.ofW (cc := b_Program_canBeDone) (maxL := 4) (ret := (some .boolean)) (by decide) rfl ?_
  intro p e s m args below meth c s₁ B hml hv
  obtain ⟨rfl, hP, hE, hZ⟩ := hv
  have hx := B.exec
  have hb := B.bytes
  have hr := B.returns
  have hts : ∀ w ∈ gW, w.before _ s = true := fun w h => atoms_spec (ws := w_Program_canBeDone) B.pre w (List.mem_cons_of_mem _ h)
  have hown : s.vm.findClass R_Program = some m.cls := findClass_of_methodNamed B.named
  have hlocks := B.notSynchronized
  have hS : va_S (fun _ => False) s.heap s.heap [] := va_S.rf
  have hP : va_P D classes [(pr, .inr (1, [.int kd, .int sz, .int ac, .ref po, .ref pn])), (po, .inl (cI, 64, .inl fo)), (pn, .inl (cI, 64, .inl fn))] s.heap := hP
  have hl := lv_entry ([.ref pr, .int k, .int h]) (n := 4) (Nat.le_of_ble_eq_true rfl)
  rw [lg_entry_eq]
  generalize (lg_sl ([.ref pr, .int k, .int h]) ++ List.replicate (4 - (lg_sl ([.ref pr, .int k, .int h])).length) Slot.unset).toArray = ls at hl ⊢
  have hl : lv_has ls 4 [(0, .ref pr), (1, .int k), (2, .int h)] := hl
  refine lv_aload_n hx hb d_Program_canBeDone_0 rfl (lv_at hl 0 rfl) ?_
  refine lv_iload_n hx hb d_Program_canBeDone_1 rfl (lv_at hl 1 rfl) ?_
  refine vp_callSi (va_Run.run (va_runV (As := [.int k]) (rest := []) ⟨hx, hb, hml, hown, hts⟩ (c_Program_opAt l D cI cZ tN tG pr po pn kd sz ac fo fn k) (cwV 1 hts (gd4 k_187 k_188 k_189 k_19 k_190) rfl rfl rfl (by decide +kernel) ⟨Nat.le_of_ble_eq_true rfl, Nat.le_of_ble_eq_true rfl⟩) ⟨PZ_blind, va_recv (q0 := 0) (ci := 1) hE.1 hP rfl rfl, pz_pre hE hZ hS (hP.sub [0, 1, 2] rfl)⟩ rfl rfl hl.1 rfl (lv_room (Nat.le_of_ble_eq_true rfl)) d_Program_canBeDone_2 ⟨Nat.zero_le _, Nat.zero_le _⟩)) (fun r hq => ?_)
  subst hq
  refine lv_istore_n hx hb d_Program_canBeDone_5 rfl hl (by decide) rfl (fun ls hl => ?_)
  have hl : lv_has ls 4 [(3, .int (rd fo 64 k)), (0, .ref pr), (1, .int k), (2, .int h)] := hl
  refine lv_aload_n hx hb d_Program_canBeDone_6 rfl (lv_at hl 1 rfl) ?_
  refine lv_iload_n hx hb d_Program_canBeDone_7 rfl (lv_at hl 2 rfl) ?_
  refine vp_callSi (va_Run.run (va_runV (As := [.int k]) (rest := []) ⟨hx, hb, hml, hown, hts⟩ (c_Program_isWellFormed l D cI cZ tN tG pr po pn kd sz ac fo fn k) (cwV 1 hts (gd4 k_192 k_193 k_194 k_19 k_195) rfl rfl rfl (by decide +kernel) ⟨Nat.le_of_ble_eq_true rfl, Nat.le_of_ble_eq_true rfl⟩) ⟨PZ_blind, va_recv (q0 := 0) (ci := 1) hE.1 hP rfl rfl, pz_pre hE hZ hS (hP.sub [0, 1, 2] rfl)⟩ rfl rfl hl.1 rfl (lv_room (Nat.le_of_ble_eq_true rfl)) d_Program_canBeDone_8 ⟨Nat.zero_le _, Nat.zero_le _⟩)) (fun r hq => ?_)
  subst hq
  refine lv_if_eq (tgt := 31) hx hb d_Program_canBeDone_11 (by decide) (fun h1 => ?_) (fun h1 => ?_)
  · -- (p_wf kd sz ac fo fn k) = 0
    refine lv_iconst (v := 0) hx hb d_Program_canBeDone_31 (by decide) ?_
    refine W.zret hx hb hr (by decide) (fun t ht hW => ⟨_, rfl, ?_, ht⟩) (fun q h => by cases h) d_Program_canBeDone_32
    show 0 = p_cbd kd sz ac fo fn k h
    first | (simp only [p_cbd, p_fit, h1, if_true, if_false, eq_self, not_true_eq_false, not_false_eq_true, ne_eq]; done) | (simp only [p_cbd, p_fit, h1, if_true, if_false, eq_self, not_true_eq_false, not_false_eq_true, ne_eq]; rfl) | (simp [p_cbd, p_fit, h1]; done)
  · -- ¬ (p_wf kd sz ac fo fn k) = 0
    refine lv_iload_n hx hb d_Program_canBeDone_14 rfl (lv_at hl 0 rfl) ?_
    refine vp_callSi (va_Run.run (va_runS (As := [.int (rd fo 64 k)]) (rest := []) ⟨hx, hb, hml, hown, hts⟩ (c_Op_hasNext l (rd fo 64 k)) (va_cwS 1 hts (gd3 k_203 k_204 k_24 k_205) rfl rfl rfl (by decide +kernel) ⟨Nat.le_of_ble_eq_true rfl, Nat.le_of_ble_eq_true rfl⟩) ⟨fun _ _ _ _ q => q, fun _ _ _ => ⟨rfl, trivial⟩⟩ rfl rfl hl.1 rfl (lv_room (Nat.le_of_ble_eq_true rfl)) d_Program_canBeDone_15 ⟨Nat.zero_le _, Nat.zero_le _⟩)) (fun r hq => ?_)
    subst hq
    refine lv_if_eq (tgt := 33) hx hb d_Program_canBeDone_18 (by decide) (fun h2 => ?_) (fun h2 => ?_)
    · -- (o_next (rd fo 64 k)) = 0
      refine lv_iload_n hx hb d_Program_canBeDone_33 rfl (lv_at hl 3 rfl) ?_
      refine lv_iload_n hx hb d_Program_canBeDone_34 rfl (lv_at hl 0 rfl) ?_
      refine lv_aload_n hx hb d_Program_canBeDone_35 rfl (lv_at hl 1 rfl) ?_
      refine va_get (D := D) (ci := 1) (v := .int kd) (C := R_Program) (T := F_Program) (N := 5) hx hb hts in_Program hown hE.1 hP 0 rfl rfl 0 (by decide) (hts _ k_40) (fun _ h9 => h9) rfl d_Program_canBeDone_36 ?_
      refine vp_callSi (va_Run.run (va_runS (As := [.int (rd fo 64 k), .int kd]) (rest := [.int h]) ⟨hx, hb, hml, hown, hts⟩ (c_Op_needs l D cI cZ tN tG (rd fo 64 k) kd) (va_cwS 2 hts (gd3 k_207 k_208 k_24 k_209) rfl rfl rfl (by decide +kernel) ⟨Nat.le_of_ble_eq_true rfl, Nat.le_of_ble_eq_true rfl⟩) ⟨PZ_blind, pz_pre hE hZ hS (hP.sub [] rfl)⟩ rfl rfl hl.1 rfl (lv_room (Nat.le_of_ble_eq_true rfl)) d_Program_canBeDone_39 ⟨Nat.zero_le _, Nat.zero_le _⟩)) (fun r hq => ?_)
      subst hq
      refine lv_icmp_lt (tgt := 60) hx hb d_Program_canBeDone_42 (by decide) (fun h3 => ?_) (fun h3 => ?_)
      · -- h < (o_needs (rd fo 64 k) kd)
        refine lv_iconst (v := 0) hx hb d_Program_canBeDone_60 (by decide) ?_
        refine W.zret hx hb hr (by decide) (fun t ht hW => ⟨_, rfl, ?_, ht⟩) (fun q h => by cases h) d_Program_canBeDone_61
        show 0 = p_cbd kd sz ac fo fn k h
        first | (simp only [p_cbd, p_fit, h1, h2, h3, if_true, if_false, eq_self, not_true_eq_false, not_false_eq_true, ne_eq]; done) | (simp only [p_cbd, p_fit, h1, h2, h3, if_true, if_false, eq_self, not_true_eq_false, not_false_eq_true, ne_eq]; rfl) | (simp [p_cbd, p_fit, h1, h2, h3]; done)
      · -- ¬ h < (o_needs (rd fo 64 k) kd)
        refine lv_iload_n hx hb d_Program_canBeDone_45 rfl (lv_at hl 3 rfl) ?_
        refine lv_iload_n hx hb d_Program_canBeDone_46 rfl (lv_at hl 0 rfl) ?_
        refine vp_callSi (va_Run.run (va_runS (As := [.int (rd fo 64 k)]) (rest := [.int h]) ⟨hx, hb, hml, hown, hts⟩ (c_Op_growth l D cI cZ tN tG (rd fo 64 k)) (va_cwS 1 hts (gd3 k_213 k_214 k_24 k_215) rfl rfl rfl (by decide +kernel) ⟨Nat.le_of_ble_eq_true rfl, Nat.le_of_ble_eq_true rfl⟩) ⟨PZ_blind, pz_pre hE hZ hS (hP.sub [] rfl)⟩ rfl rfl hl.1 rfl (lv_room (Nat.le_of_ble_eq_true rfl)) d_Program_canBeDone_47 ⟨Nat.zero_le _, Nat.zero_le _⟩)) (fun r hq => ?_)
        subst hq
        refine lv_iadd hx hb d_Program_canBeDone_50 ?_
        refine lv_bipush (v := 8) hx hb d_Program_canBeDone_51 (by decide) ?_
        refine lv_icmp_gt (tgt := 60) hx hb d_Program_canBeDone_53 (by decide) (fun h4 => ?_) (fun h4 => ?_)
        · -- 8 < (h + (o_grow (rd fo 64 k)))
          refine lv_iconst (v := 0) hx hb d_Program_canBeDone_60 (by decide) ?_
          refine W.zret hx hb hr (by decide) (fun t ht hW => ⟨_, rfl, ?_, ht⟩) (fun q h => by cases h) d_Program_canBeDone_61
          show 0 = p_cbd kd sz ac fo fn k h
          first | (simp only [p_cbd, p_fit, h1, h2, h3, h4, if_true, if_false, eq_self, not_true_eq_false, not_false_eq_true, ne_eq]; done) | (simp only [p_cbd, p_fit, h1, h2, h3, h4, if_true, if_false, eq_self, not_true_eq_false, not_false_eq_true, ne_eq]; rfl) | (simp [p_cbd, p_fit, h1, h2, h3, h4]; done)
        · -- ¬ 8 < (h + (o_grow (rd fo 64 k)))
          refine lv_iconst (v := 1) hx hb d_Program_canBeDone_56 (by decide) ?_
          refine lv_goto (tgt := 61) hx hb d_Program_canBeDone_57 (by decide) ?_
          refine W.zret hx hb hr (by decide) (fun t ht hW => ⟨_, rfl, ?_, ht⟩) (fun q h => by cases h) d_Program_canBeDone_61
          show 1 = p_cbd kd sz ac fo fn k h
          first | (simp only [p_cbd, p_fit, h1, h2, h3, h4, if_true, if_false, eq_self, not_true_eq_false, not_false_eq_true, ne_eq]; done) | (simp only [p_cbd, p_fit, h1, h2, h3, h4, if_true, if_false, eq_self, not_true_eq_false, not_false_eq_true, ne_eq]; rfl) | (simp [p_cbd, p_fit, h1, h2, h3, h4]; done)
    · -- ¬ (o_next (rd fo 64 k)) = 0
      refine lv_aload_n hx hb d_Program_canBeDone_21 rfl (lv_at hl 1 rfl) ?_
      refine lv_iload_n hx hb d_Program_canBeDone_22 rfl (lv_at hl 2 rfl) ?_
      refine lv_iconst (v := 1) hx hb d_Program_canBeDone_23 (by decide) ?_
      refine lv_iadd hx hb d_Program_canBeDone_24 ?_
      refine vp_callSi (va_Run.run (va_runV (As := [.int (k + 1)]) (rest := []) ⟨hx, hb, hml, hown, hts⟩ (c_Program_has l D cI cZ tN tG pr po pn kd sz ac fo fn (k + 1)) (cwV 1 hts (gd4 k_206 k_168 k_169 k_19 k_170) rfl rfl rfl (by decide +kernel) ⟨Nat.le_of_ble_eq_true rfl, Nat.le_of_ble_eq_true rfl⟩) ⟨PZ_blind, va_recv (q0 := 0) (ci := 1) hE.1 hP rfl rfl, pz_pre hE hZ hS (hP.sub [0, 1, 2] rfl)⟩ rfl rfl hl.1 rfl (lv_room (Nat.le_of_ble_eq_true rfl)) d_Program_canBeDone_25 ⟨Nat.zero_le _, Nat.zero_le _⟩)) (fun r hq => ?_)
      subst hq
      refine lv_if_ne (tgt := 33) hx hb d_Program_canBeDone_28 (by decide) (fun h5 => ?_) (fun h5 => ?_)
      · -- ¬ (p_has sz (k + 1)) = 0
        refine lv_iload_n hx hb d_Program_canBeDone_33 rfl (lv_at hl 3 rfl) ?_
        refine lv_iload_n hx hb d_Program_canBeDone_34 rfl (lv_at hl 0 rfl) ?_
        refine lv_aload_n hx hb d_Program_canBeDone_35 rfl (lv_at hl 1 rfl) ?_
        refine va_get (D := D) (ci := 1) (v := .int kd) (C := R_Program) (T := F_Program) (N := 5) hx hb hts in_Program hown hE.1 hP 0 rfl rfl 0 (by decide) (hts _ k_40) (fun _ h9 => h9) rfl d_Program_canBeDone_36 ?_
        refine vp_callSi (va_Run.run (va_runS (As := [.int (rd fo 64 k), .int kd]) (rest := [.int h]) ⟨hx, hb, hml, hown, hts⟩ (c_Op_needs l D cI cZ tN tG (rd fo 64 k) kd) (va_cwS 2 hts (gd3 k_207 k_208 k_24 k_209) rfl rfl rfl (by decide +kernel) ⟨Nat.le_of_ble_eq_true rfl, Nat.le_of_ble_eq_true rfl⟩) ⟨PZ_blind, pz_pre hE hZ hS (hP.sub [] rfl)⟩ rfl rfl hl.1 rfl (lv_room (Nat.le_of_ble_eq_true rfl)) d_Program_canBeDone_39 ⟨Nat.zero_le _, Nat.zero_le _⟩)) (fun r hq => ?_)
        subst hq
        refine lv_icmp_lt (tgt := 60) hx hb d_Program_canBeDone_42 (by decide) (fun h6 => ?_) (fun h6 => ?_)
        · -- h < (o_needs (rd fo 64 k) kd)
          refine lv_iconst (v := 0) hx hb d_Program_canBeDone_60 (by decide) ?_
          refine W.zret hx hb hr (by decide) (fun t ht hW => ⟨_, rfl, ?_, ht⟩) (fun q h => by cases h) d_Program_canBeDone_61
          show 0 = p_cbd kd sz ac fo fn k h
          first | (simp only [p_cbd, p_fit, h1, h2, h5, h6, if_true, if_false, eq_self, not_true_eq_false, not_false_eq_true, ne_eq]; done) | (simp only [p_cbd, p_fit, h1, h2, h5, h6, if_true, if_false, eq_self, not_true_eq_false, not_false_eq_true, ne_eq]; rfl) | (simp [p_cbd, p_fit, h1, h2, h5, h6]; done)
        · -- ¬ h < (o_needs (rd fo 64 k) kd)
          refine lv_iload_n hx hb d_Program_canBeDone_45 rfl (lv_at hl 3 rfl) ?_
          refine lv_iload_n hx hb d_Program_canBeDone_46 rfl (lv_at hl 0 rfl) ?_
          refine vp_callSi (va_Run.run (va_runS (As := [.int (rd fo 64 k)]) (rest := [.int h]) ⟨hx, hb, hml, hown, hts⟩ (c_Op_growth l D cI cZ tN tG (rd fo 64 k)) (va_cwS 1 hts (gd3 k_213 k_214 k_24 k_215) rfl rfl rfl (by decide +kernel) ⟨Nat.le_of_ble_eq_true rfl, Nat.le_of_ble_eq_true rfl⟩) ⟨PZ_blind, pz_pre hE hZ hS (hP.sub [] rfl)⟩ rfl rfl hl.1 rfl (lv_room (Nat.le_of_ble_eq_true rfl)) d_Program_canBeDone_47 ⟨Nat.zero_le _, Nat.zero_le _⟩)) (fun r hq => ?_)
          subst hq
          refine lv_iadd hx hb d_Program_canBeDone_50 ?_
          refine lv_bipush (v := 8) hx hb d_Program_canBeDone_51 (by decide) ?_
          refine lv_icmp_gt (tgt := 60) hx hb d_Program_canBeDone_53 (by decide) (fun h7 => ?_) (fun h7 => ?_)
          · -- 8 < (h + (o_grow (rd fo 64 k)))
            refine lv_iconst (v := 0) hx hb d_Program_canBeDone_60 (by decide) ?_
            refine W.zret hx hb hr (by decide) (fun t ht hW => ⟨_, rfl, ?_, ht⟩) (fun q h => by cases h) d_Program_canBeDone_61
            show 0 = p_cbd kd sz ac fo fn k h
            first | (simp only [p_cbd, p_fit, h1, h2, h5, h6, h7, if_true, if_false, eq_self, not_true_eq_false, not_false_eq_true, ne_eq]; done) | (simp only [p_cbd, p_fit, h1, h2, h5, h6, h7, if_true, if_false, eq_self, not_true_eq_false, not_false_eq_true, ne_eq]; rfl) | (simp [p_cbd, p_fit, h1, h2, h5, h6, h7]; done)
          · -- ¬ 8 < (h + (o_grow (rd fo 64 k)))
            refine lv_iconst (v := 1) hx hb d_Program_canBeDone_56 (by decide) ?_
            refine lv_goto (tgt := 61) hx hb d_Program_canBeDone_57 (by decide) ?_
            refine W.zret hx hb hr (by decide) (fun t ht hW => ⟨_, rfl, ?_, ht⟩) (fun q h => by cases h) d_Program_canBeDone_61
            show 1 = p_cbd kd sz ac fo fn k h
            first | (simp only [p_cbd, p_fit, h1, h2, h5, h6, h7, if_true, if_false, eq_self, not_true_eq_false, not_false_eq_true, ne_eq]; done) | (simp only [p_cbd, p_fit, h1, h2, h5, h6, h7, if_true, if_false, eq_self, not_true_eq_false, not_false_eq_true, ne_eq]; rfl) | (simp [p_cbd, p_fit, h1, h2, h5, h6, h7]; done)
      · -- (p_has sz (k + 1)) = 0
        refine lv_iconst (v := 0) hx hb d_Program_canBeDone_31 (by decide) ?_
        refine W.zret hx hb hr (by decide) (fun t ht hW => ⟨_, rfl, ?_, ht⟩) (fun q h => by cases h) d_Program_canBeDone_32
        show 0 = p_cbd kd sz ac fo fn k h
        first | (simp only [p_cbd, p_fit, h1, h2, h5, if_true, if_false, eq_self, not_true_eq_false, not_false_eq_true, ne_eq]; done) | (simp only [p_cbd, p_fit, h1, h2, h5, if_true, if_false, eq_self, not_true_eq_false, not_false_eq_true, ne_eq]; rfl) | (simp [p_cbd, p_fit, h1, h2, h5]; done)
end
section
set_option maxHeartbeats 4000000 in
set_option maxRecDepth 100000 in
theorem c_Ways_isReached (l : Launch) (D : va_G) (cI cZ : ClassId) (tN tG : Nat) (wy re wa : Nat) (fr fw : Nat → Int32) (wc : Int32) (k h : Int32) : Met l y_Ways_isReached w_Ways_isReached (rmk 1) (va_Pc [.ref wy, .int k, .int h] (PZ D cI cZ tN tG [(wy, .inr (2, [.ref re, .ref wa, .int wc])), (re, .inl (cI, 64, .inl fr)), (wa, .inl (cI, 576, .inl fw))])) (vp_Si (fun r => r = w_isR fr k h)) 0 0 (fun _ => False) := by
  refine Met.ofW (cc := b_Ways_isReached) (maxL := 3) (ret := (some .boolean)) (by decide) rfl ?_
  intro p e s m args below meth c s₁ B hml hv
  obtain ⟨rfl, hP, hE, hZ⟩ := hv
  have hx := B.exec
  have hb := B.bytes
  have hr := B.returns
  have hts : ∀ w ∈ gW, w.before _ s = true := fun w h => atoms_spec (ws := w_Ways_isReached) B.pre w (List.mem_cons_of_mem _ h)
  have hown : s.vm.findClass R_Ways = some m.cls := findClass_of_methodNamed B.named
  have hlocks := B.notSynchronized
  have hS : va_S (fun _ => False) s.heap s.heap [] := va_S.rf
  have hP : va_P D classes [(wy, .inr (2, [.ref re, .ref wa, .int wc])), (re, .inl (cI, 64, .inl fr)), (wa, .inl (cI, 576, .inl fw))] s.heap := hP
  have hl := lv_entry ([.ref wy, .int k, .int h]) (n := 3) (Nat.le_of_ble_eq_true rfl)
  rw [lg_entry_eq]
  generalize (lg_sl ([.ref wy, .int k, .int h]) ++ List.replicate (3 - (lg_sl ([.ref wy, .int k, .int h])).length) Slot.unset).toArray = ls at hl ⊢
  have hl : lv_has ls 3 [(0, .ref wy), (1, .int k), (2, .int h)] := hl
  refine lv_aload_n hx hb d_Ways_isReached_0 rfl (lv_at hl 0 rfl) ?_
  refine va_get (D := D) (ci := 2) (v := .ref re) (C := R_Ways) (T := F_Ways) (N := 3) hx hb hts in_Ways hown hE.1 hP 0 rfl rfl 0 (by decide) (hts _ k_66) (fun _ h9 => h9) rfl d_Ways_isReached_1 ?_
  refine lv_iload_n hx hb d_Ways_isReached_4 rfl (lv_at hl 1 rfl) ?_
  refine vp_callSi (va_Run.run (va_runSN (As := [.ref re, .int k]) (rest := []) ⟨hx, hb, hml, hown, hts⟩ (c_SJ_read l re 64 fr k (by decide)) ⟨va_cnB 2 hts (gd k_177) rfl rfl rfl (hE.2 _ nm_3) (hts _ k_18) (by decide +kernel) ⟨Nat.le_of_ble_eq_true rfl, Nat.le_of_ble_eq_true rfl⟩, hts _ k_176, trivial⟩ (rp_pre hE.1 hP 1 0 rfl rfl) rfl rfl hl.1 rfl (lv_room (Nat.le_of_ble_eq_true rfl)) d_Ways_isReached_5 ⟨Nat.zero_le _, Nat.zero_le _⟩)) (fun r hq => ?_)
  subst hq
  refine lv_iload_n hx hb d_Ways_isReached_8 rfl (lv_at hl 2 rfl) ?_
  refine lv_ishr hx hb d_Ways_isReached_9 ?_
  refine lv_iconst (v := 1) hx hb d_Ways_isReached_10 (by decide) ?_
  refine lv_iand hx hb d_Ways_isReached_11 ?_
  refine lv_if_eq (tgt := 19) hx hb d_Ways_isReached_12 (by decide) (fun h1 => ?_) (fun h1 => ?_)
  · -- (((rd fr 64 k) >>> (h &&& 31)) &&& 1) = 0
    refine lv_iconst (v := 0) hx hb d_Ways_isReached_19 (by decide) ?_
    refine W.zret hx hb hr (by decide) (fun t ht hW => ⟨_, rfl, ?_, ht⟩) (fun q h => by cases h) d_Ways_isReached_20
    show 0 = w_isR fr k h
    first | (simp only [w_isR, h1, if_true, if_false, eq_self, not_true_eq_false, not_false_eq_true, ne_eq]; done) | (simp only [w_isR, h1, if_true, if_false, eq_self, not_true_eq_false, not_false_eq_true, ne_eq]; rfl) | (simp [w_isR, h1]; done)
  · -- ¬ (((rd fr 64 k) >>> (h &&& 31)) &&& 1) = 0
    refine lv_iconst (v := 1) hx hb d_Ways_isReached_15 (by decide) ?_
    refine lv_goto (tgt := 20) hx hb d_Ways_isReached_16 (by decide) ?_
    refine W.zret hx hb hr (by decide) (fun t ht hW => ⟨_, rfl, ?_, ht⟩) (fun q h => by cases h) d_Ways_isReached_20
    show 1 = w_isR fr k h
    first | (simp only [w_isR, h1, if_true, if_false, eq_self, not_true_eq_false, not_false_eq_true, ne_eq]; done) | (simp only [w_isR, h1, if_true, if_false, eq_self, not_true_eq_false, not_false_eq_true, ne_eq]; rfl) | (simp [w_isR, h1]; done)
set_option maxHeartbeats 4000000 in
set_option maxRecDepth 100000 in
theorem c_Ways_reach (l : Launch) (D : va_G) (cI cZ : ClassId) (tN tG : Nat) (hz : Nat) (pr po pn : Nat) (kd sz ac : Int32) (fo fn : Nat → Int32) (wy re wa : Nat) (fr fw : Nat → Int32) (wc : Int32) (k h : Int32) : Met l y_Ways_reach w_Ways_reach (rmk 2) (va_Pc [.ref wy, .ref pr, .int k, .int h] (MZ D cI cZ tN tG [(pr, .inr (1, [.int kd, .int sz, .int ac, .ref po, .ref pn])), (po, .inl (cI, 64, .inl fo)), (pn, .inl (cI, 64, .inl fn)), (wy, .inr (2, [.ref re, .ref wa, .int wc])), (re, .inl (cI, 64, .inl fr)), (wa, .inl (cI, 576, .inl fw))] hz)) (va_Qv (fun u : WS => u = w_reach sz k h (fr, fw, wc)) (fun u t => ME D (va_A [(pr, .inr (1, [.int kd, .int sz, .int ac, .ref po, .ref pn])), (po, .inl (cI, 64, .inl fo)), (pn, .inl (cI, 64, .inl fn)), (wy, .inr (2, [.ref re, .ref wa, .int wc])), (re, .inl (cI, 64, .inl fr)), (wa, .inl (cI, 576, .inl fw))] hz) [(pr, .inr (1, [.int kd, .int sz, .int ac, .ref po, .ref pn])), (po, .inl (cI, 64, .inl fo)), (pn, .inl (cI, 64, .inl fn)), (wy, .inr (2, [.ref re, .ref wa, .int u.2.2])), (re, .inl (cI, 64, .inl u.1)), (wa, .inl (cI, 576, .inl u.2.1))] t) (va_A [(pr, .inr (1, [.int kd, .int sz, .int ac, .ref po, .ref pn])), (po, .inl (cI, 64, .inl fo)), (pn, .inl (cI, 64, .inl fn)), (wy, .inr (2, [.ref re, .ref wa, .int wc])), (re, .inl (cI, 64, .inl fr)), (wa, .inl (cI, 576, .inl fw))] hz)) 0 0 (va_A [(pr, .inr (1, [.int kd, .int sz, .int ac, .ref po, .ref pn])), (po, .inl (cI, 64, .inl fo)), (pn, .inl (cI, 64, .inl fn)), (wy, .inr (2, [.ref re, .ref wa, .int wc])), (re, .inl (cI, 64, .inl fr)), (wa, .inl (cI, 576, .inl fw))] hz) := by
  refine Met.ofW (cc := b_Ways_reach) (maxL := 4) (ret := none) (by decide) rfl ?_
  intro p e s m args below meth c s₁ B hml hv
  obtain ⟨rfl, hsz, hP, hE, hD0, hZ⟩ := hv
  have hx := B.exec
  have hb := B.bytes
  have hr := B.returns
  have hts : ∀ w ∈ gW, w.before _ s = true := fun w h => atoms_spec (ws := w_Ways_reach) B.pre w (List.mem_cons_of_mem _ h)
  have hown : s.vm.findClass R_Ways = some m.cls := findClass_of_methodNamed B.named
  have hlocks := B.notSynchronized
  subst hsz
  have hD := hD0.self (sz := s.heap.size)
  have hA : ∀ q : Nat, s.heap.size ≤ q → va_A [(pr, .inr (1, [.int kd, .int sz, .int ac, .ref po, .ref pn])), (po, .inl (cI, 64, .inl fo)), (pn, .inl (cI, 64, .inl fn)), (wy, .inr (2, [.ref re, .ref wa, .int wc])), (re, .inl (cI, 64, .inl fr)), (wa, .inl (cI, 576, .inl fw))] s.heap.size q := fun q h => Or.inr h
  generalize va_A [(pr, .inr (1, [.int kd, .int sz, .int ac, .ref po, .ref pn])), (po, .inl (cI, 64, .inl fo)), (pn, .inl (cI, 64, .inl fn)), (wy, .inr (2, [.ref re, .ref wa, .int wc])), (re, .inl (cI, 64, .inl fr)), (wa, .inl (cI, 576, .inl fw))] s.heap.size = A at hD hA hZ ⊢
  have hS : va_S A s.heap s.heap [] := va_S.rf
  have hP : va_P D classes [(pr, .inr (1, [.int kd, .int sz, .int ac, .ref po, .ref pn])), (po, .inl (cI, 64, .inl fo)), (pn, .inl (cI, 64, .inl fn)), (wy, .inr (2, [.ref re, .ref wa, .int wc])), (re, .inl (cI, 64, .inl fr)), (wa, .inl (cI, 576, .inl fw))] s.heap := hP
  have hD : va_D A [(pr, .inr (1, [.int kd, .int sz, .int ac, .ref po, .ref pn])), (po, .inl (cI, 64, .inl fo)), (pn, .inl (cI, 64, .inl fn)), (wy, .inr (2, [.ref re, .ref wa, .int wc])), (re, .inl (cI, 64, .inl fr)), (wa, .inl (cI, 576, .inl fw))] := hD
  have hl := lv_entry ([.ref wy, .ref pr, .int k, .int h]) (n := 4) (Nat.le_of_ble_eq_true rfl)
  rw [lg_entry_eq]
  generalize (lg_sl ([.ref wy, .ref pr, .int k, .int h]) ++ List.replicate (4 - (lg_sl ([.ref wy, .ref pr, .int k, .int h])).length) Slot.unset).toArray = ls at hl ⊢
  have hl : lv_has ls 4 [(0, .ref wy), (1, .ref pr), (2, .int k), (3, .int h)] := hl
  refine lv_aload_n hx hb d_Ways_reach_0 rfl (lv_at hl 1 rfl) ?_
  refine lv_iload_n hx hb d_Ways_reach_1 rfl (lv_at hl 2 rfl) ?_
  refine vp_callSi (va_Run.run (va_runV (As := [.int k]) (rest := []) ⟨hx, hb, hml, hown, hts⟩ (c_Program_has l D cI cZ tN tG pr po pn kd sz ac fo fn k) (cwV 1 hts (gd4 k_167 k_168 k_169 k_19 k_170) rfl rfl rfl (by decide +kernel) ⟨Nat.le_of_ble_eq_true rfl, Nat.le_of_ble_eq_true rfl⟩) ⟨PZ_blind, va_recv (q0 := 0) (ci := 1) hE.1 hP rfl rfl, pz_pre hE hZ hS (hP.sub [0, 1, 2] rfl)⟩ rfl rfl hl.1 rfl (lv_room (Nat.le_of_ble_eq_true rfl)) d_Ways_reach_2 ⟨Nat.zero_le _, Nat.zero_le _⟩)) (fun r hq => ?_)
  subst hq
  refine lv_if_eq (tgt := 17) hx hb d_Ways_reach_5 (by decide) (fun h1 => ?_) (fun h1 => ?_)
  · -- (p_has sz k) = 0
    refine W.vret hx hb hr (fun t ht hW => ⟨⟨(fr, fw, wc), rfl, ?_, ?_⟩, hS.F ht⟩) hS.2.2 d_Ways_reach_17
    · first | (simp only [w_reach, h1, if_true, if_false, eq_self, not_true_eq_false, not_false_eq_true, ne_eq]; done) | (simp only [w_reach, h1, if_true, if_false, eq_self, not_true_eq_false, not_false_eq_true, ne_eq]; rfl) | (simp [w_reach, h1]; done)
    · exact ⟨by rw [ht]; exact hP.sub [0, 1, 2, 3, 4, 5] rfl, hD.sub [0, 1, 2, 3, 4, 5] (by decide) rfl⟩
  · -- ¬ (p_has sz k) = 0
    refine lv_aload_n hx hb d_Ways_reach_8 rfl (lv_at hl 0 rfl) ?_
    refine lv_iload_n hx hb d_Ways_reach_9 rfl (lv_at hl 2 rfl) ?_
    refine lv_iload_n hx hb d_Ways_reach_10 rfl (lv_at hl 3 rfl) ?_
    refine vp_callSi (va_Run.run (va_runV (As := [.int k, .int h]) (rest := []) ⟨hx, hb, hml, hown, hts⟩ (c_Ways_isReached l D cI cZ tN tG wy re wa fr fw wc k h) (cwV 2 hts (gd4 k_171 k_173 k_1 k_20 k_174) rfl rfl rfl (by decide +kernel) ⟨Nat.le_of_ble_eq_true rfl, Nat.le_of_ble_eq_true rfl⟩) ⟨PZ_blind, va_recv (q0 := 3) (ci := 2) hE.1 hP rfl rfl, pz_pre hE hZ hS (hP.sub [3, 4, 5] rfl)⟩ rfl rfl hl.1 rfl (lv_room (Nat.le_of_ble_eq_true rfl)) d_Ways_reach_11 ⟨Nat.zero_le _, Nat.zero_le _⟩)) (fun r hq => ?_)
    subst hq
    refine lv_if_eq (tgt := 18) hx hb d_Ways_reach_14 (by decide) (fun h2 => ?_) (fun h2 => ?_)
    · -- (w_isR fr k h) = 0
      refine lv_aload_n hx hb d_Ways_reach_18 rfl (lv_at hl 0 rfl) ?_
      refine va_get (D := D) (ci := 2) (v := .ref re) (C := R_Ways) (T := F_Ways) (N := 3) hx hb hts in_Ways hown hE.1 hP 3 rfl rfl 0 (by decide) (hts _ k_66) (fun _ h9 => h9) rfl d_Ways_reach_19 ?_
      refine lv_iload_n hx hb d_Ways_reach_22 rfl (lv_at hl 2 rfl) ?_
      refine lv_aload_n hx hb d_Ways_reach_23 rfl (lv_at hl 0 rfl) ?_
      refine va_get (D := D) (ci := 2) (v := .ref re) (C := R_Ways) (T := F_Ways) (N := 3) hx hb hts in_Ways hown hE.1 hP 3 rfl rfl 0 (by decide) (hts _ k_66) (fun _ h9 => h9) rfl d_Ways_reach_24 ?_
      refine lv_iload_n hx hb d_Ways_reach_27 rfl (lv_at hl 2 rfl) ?_
      refine vp_callSi (va_Run.run (va_runSN (As := [.ref re, .int k]) (rest := [.int k, .ref re]) ⟨hx, hb, hml, hown, hts⟩ (c_SJ_read l re 64 fr k (by decide)) ⟨va_cnB 2 hts (gd k_177) rfl rfl rfl (hE.2 _ nm_3) (hts _ k_18) (by decide +kernel) ⟨Nat.le_of_ble_eq_true rfl, Nat.le_of_ble_eq_true rfl⟩, hts _ k_176, trivial⟩ (rp_pre hE.1 hP 4 0 rfl rfl) rfl rfl hl.1 rfl (lv_room (Nat.le_of_ble_eq_true rfl)) d_Ways_reach_28 ⟨Nat.zero_le _, Nat.zero_le _⟩)) (fun r hq => ?_)
      subst hq
      refine lv_iconst (v := 1) hx hb d_Ways_reach_31 (by decide) ?_
      refine lv_iload_n hx hb d_Ways_reach_32 rfl (lv_at hl 3 rfl) ?_
      refine lv_ishl hx hb d_Ways_reach_33 ?_
      refine lv_ior hx hb d_Ways_reach_34 ?_
      have hPc := hP.sub (ws' := [(re, .inl (cI, 64, .inl fr))]) [4] rfl
      have hDc := hD.sub (ws' := [(re, .inl (cI, 64, .inl fr))]) [4] (by decide) rfl
      have hFc := va_free (wc := [(re, .inl (cI, 64, .inl fr))]) hD hS hA [4] rfl
      refine va_callv (va_runSN (As := [.ref re, .int k, .int ((rd fr 64 k) ||| (1 <<< (h &&& 31)))]) (rest := []) ⟨hx, hb, hml, hown, hts⟩ (c_SJ_write l D cI cZ tN tG s.heap.size re 64 fr k ((rd fr 64 k) ||| (1 <<< (h &&& 31))) (by decide)) ⟨va_cnB 3 hts (gd k_139) rfl rfl rfl (hE.2 _ nm_4) (hts _ k_18) (by decide +kernel) ⟨Nat.le_of_ble_eq_true rfl, Nat.le_of_ble_eq_true rfl⟩, hts _ k_138, trivial⟩ ⟨MZ_blind, mz_pre hE hZ hS hPc hDc hFc⟩ rfl rfl hl.1 rfl (lv_room (Nat.le_of_ble_eq_true rfl)) d_Ways_reach_35 ⟨Nat.zero_le _, Nat.zero_le _⟩) hS (fun q _ h => hFc q h) hFc (fun u t H1 locs ht hvm hw hB hz1 hk1 hS => ?_)
      obtain ⟨hP1, hD1⟩ := hB
      rw [ht] at hP1
      subst hw
      obtain ⟨hP, hD⟩ := va_join (wr := [(pr, .inr (1, [.int kd, .int sz, .int ac, .ref po, .ref pn])), (po, .inl (cI, 64, .inl fo)), (pn, .inl (cI, 64, .inl fn)), (wy, .inr (2, [.ref re, .ref wa, .int wc])), (wa, .inl (cI, 576, .inl fw))]) (w1 := [(re, .inl (cI, 64, .inl (wr fr 64 k ((rd fr 64 k) ||| (1 <<< (h &&& 31))))))]) hP hD [4] [0, 1, 2, 3, 5] rfl rfl (by decide) (by decide) hk1 hFc hP1 hD1
      generalize H1 = H at hP hS ⊢
      have hP : va_P D classes [(pr, .inr (1, [.int kd, .int sz, .int ac, .ref po, .ref pn])), (po, .inl (cI, 64, .inl fo)), (pn, .inl (cI, 64, .inl fn)), (wy, .inr (2, [.ref re, .ref wa, .int wc])), (wa, .inl (cI, 576, .inl fw)), (re, .inl (cI, 64, .inl (wr fr 64 k ((rd fr 64 k) ||| (1 <<< (h &&& 31))))))] H := hP
      have hD : va_D A [(pr, .inr (1, [.int kd, .int sz, .int ac, .ref po, .ref pn])), (po, .inl (cI, 64, .inl fo)), (pn, .inl (cI, 64, .inl fn)), (wy, .inr (2, [.ref re, .ref wa, .int wc])), (wa, .inl (cI, 576, .inl fw)), (re, .inl (cI, 64, .inl (wr fr 64 k ((rd fr 64 k) ||| (1 <<< (h &&& 31))))))] := hD
      refine lv_aload_n hx hb d_Ways_reach_38 rfl (lv_at hl 0 rfl) ?_
      refine va_get (D := D) (ci := 2) (v := .ref wa) (C := R_Ways) (T := F_Ways) (N := 3) hx hb hts in_Ways hown hE.1 hP 3 rfl rfl 1 (by decide) (hts _ k_68) (fun _ h9 => h9) rfl d_Ways_reach_39 ?_
      refine lv_aload_n hx hb d_Ways_reach_42 rfl (lv_at hl 0 rfl) ?_
      refine va_get (D := D) (ci := 2) (v := .int wc) (C := R_Ways) (T := F_Ways) (N := 3) hx hb hts in_Ways hown hE.1 hP 3 rfl rfl 2 (by decide) (hts _ k_69) (fun _ h9 => h9) rfl d_Ways_reach_43 ?_
      refine lv_iload_n hx hb d_Ways_reach_46 rfl (lv_at hl 2 rfl) ?_
      refine lv_bipush (v := 9) hx hb d_Ways_reach_47 (by decide) ?_
      refine lv_imul hx hb d_Ways_reach_49 ?_
      refine lv_iload_n hx hb d_Ways_reach_50 rfl (lv_at hl 3 rfl) ?_
      refine lv_iadd hx hb d_Ways_reach_51 ?_
      have hPc := hP.sub (ws' := [(wa, .inl (cI, 576, .inl fw))]) [4] rfl
      have hDc := hD.sub (ws' := [(wa, .inl (cI, 576, .inl fw))]) [4] (by decide) rfl
      have hFc := va_free (wc := [(wa, .inl (cI, 576, .inl fw))]) hD hS hA [4] rfl
      refine va_callv (va_runSN (As := [.ref wa, .int wc, .int ((k * 9) + h)]) (rest := []) ⟨hx, hb, hml, hown, hts⟩ (c_SJ_write l D cI cZ tN tG H.size wa 576 fw wc ((k * 9) + h) (by decide)) ⟨va_cnB 3 hts (gd k_139) rfl rfl rfl (hE.2 _ nm_4) (hts _ k_18) (by decide +kernel) ⟨Nat.le_of_ble_eq_true rfl, Nat.le_of_ble_eq_true rfl⟩, hts _ k_138, trivial⟩ ⟨MZ_blind, mz_pre hE hZ hS hPc hDc hFc⟩ rfl rfl hl.1 rfl (lv_room (Nat.le_of_ble_eq_true rfl)) d_Ways_reach_52 ⟨Nat.zero_le _, Nat.zero_le _⟩) hS (fun q _ h => hFc q h) hFc (fun u t H1 locs ht hvm hw hB hz1 hk1 hS => ?_)
      obtain ⟨hP1, hD1⟩ := hB
      rw [ht] at hP1
      subst hw
      obtain ⟨hP, hD⟩ := va_join (wr := [(pr, .inr (1, [.int kd, .int sz, .int ac, .ref po, .ref pn])), (po, .inl (cI, 64, .inl fo)), (pn, .inl (cI, 64, .inl fn)), (wy, .inr (2, [.ref re, .ref wa, .int wc])), (re, .inl (cI, 64, .inl (wr fr 64 k ((rd fr 64 k) ||| (1 <<< (h &&& 31))))))]) (w1 := [(wa, .inl (cI, 576, .inl (wr fw 576 wc ((k * 9) + h))))]) hP hD [4] [0, 1, 2, 3, 5] rfl rfl (by decide) (by decide) hk1 hFc hP1 hD1
      generalize H1 = H at hP hS ⊢
      have hP : va_P D classes [(pr, .inr (1, [.int kd, .int sz, .int ac, .ref po, .ref pn])), (po, .inl (cI, 64, .inl fo)), (pn, .inl (cI, 64, .inl fn)), (wy, .inr (2, [.ref re, .ref wa, .int wc])), (re, .inl (cI, 64, .inl (wr fr 64 k ((rd fr 64 k) ||| (1 <<< (h &&& 31)))))), (wa, .inl (cI, 576, .inl (wr fw 576 wc ((k * 9) + h))))] H := hP
      have hD : va_D A [(pr, .inr (1, [.int kd, .int sz, .int ac, .ref po, .ref pn])), (po, .inl (cI, 64, .inl fo)), (pn, .inl (cI, 64, .inl fn)), (wy, .inr (2, [.ref re, .ref wa, .int wc])), (re, .inl (cI, 64, .inl (wr fr 64 k ((rd fr 64 k) ||| (1 <<< (h &&& 31)))))), (wa, .inl (cI, 576, .inl (wr fw 576 wc ((k * 9) + h))))] := hD
      refine lv_aload_n hx hb d_Ways_reach_55 rfl (lv_at hl 0 rfl) ?_
      refine lv_dup hx hb d_Ways_reach_56 rfl ?_
      refine va_get (D := D) (ci := 2) (v := .int wc) (C := R_Ways) (T := F_Ways) (N := 3) hx hb hts in_Ways hown hE.1 hP 3 rfl rfl 2 (by decide) (hts _ k_69) (fun _ h9 => h9) rfl d_Ways_reach_57 ?_
      refine lv_iconst (v := 1) hx hb d_Ways_reach_60 (by decide) ?_
      refine lv_iadd hx hb d_Ways_reach_61 ?_
      refine va_put (D := D) (ci := 2) (v := .int (wc + 1)) (ty := .int) (C := R_Ways) (T := F_Ways) (N := 3) hx hb hts in_Ways t_Ways t_Ways_ok n_Ways hown hE.1 hP hD hS 3 rfl rfl 2 (by decide) (hts _ k_69) (fun _ h9 => h9) rfl (by decide +kernel) rfl rfl (Nat.le_of_ble_eq_true rfl) d_Ways_reach_62 (fun H locs hP hD hS => ?_)
      have hP : va_P D classes [(pr, .inr (1, [.int kd, .int sz, .int ac, .ref po, .ref pn])), (po, .inl (cI, 64, .inl fo)), (pn, .inl (cI, 64, .inl fn)), (wy, .inr (2, [.ref re, .ref wa, .int (wc + 1)])), (re, .inl (cI, 64, .inl (wr fr 64 k ((rd fr 64 k) ||| (1 <<< (h &&& 31)))))), (wa, .inl (cI, 576, .inl (wr fw 576 wc ((k * 9) + h))))] H := hP
      have hD : va_D A [(pr, .inr (1, [.int kd, .int sz, .int ac, .ref po, .ref pn])), (po, .inl (cI, 64, .inl fo)), (pn, .inl (cI, 64, .inl fn)), (wy, .inr (2, [.ref re, .ref wa, .int (wc + 1)])), (re, .inl (cI, 64, .inl (wr fr 64 k ((rd fr 64 k) ||| (1 <<< (h &&& 31)))))), (wa, .inl (cI, 576, .inl (wr fw 576 wc ((k * 9) + h))))] := hD
      refine W.vret hx hb hr (fun t ht hW => ⟨⟨((wr fr 64 k ((rd fr 64 k) ||| (1 <<< (h &&& 31)))), (wr fw 576 wc ((k * 9) + h)), (wc + 1)), rfl, ?_, ?_⟩, hS.F ht⟩) hS.2.2 d_Ways_reach_65
      · first | (simp only [w_reach, h1, h2, if_true, if_false, eq_self, not_true_eq_false, not_false_eq_true, ne_eq]; done) | (simp only [w_reach, h1, h2, if_true, if_false, eq_self, not_true_eq_false, not_false_eq_true, ne_eq]; rfl) | (simp [w_reach, h1, h2]; done)
      · exact ⟨by rw [ht]; exact hP.sub [0, 1, 2, 3, 4, 5] rfl, hD.sub [0, 1, 2, 3, 4, 5] (by decide) rfl⟩
    · -- ¬ (w_isR fr k h) = 0
      refine W.vret hx hb hr (fun t ht hW => ⟨⟨(fr, fw, wc), rfl, ?_, ?_⟩, hS.F ht⟩) hS.2.2 d_Ways_reach_17
      · first | (simp only [w_reach, h1, h2, if_true, if_false, eq_self, not_true_eq_false, not_false_eq_true, ne_eq]; done) | (simp only [w_reach, h1, h2, if_true, if_false, eq_self, not_true_eq_false, not_false_eq_true, ne_eq]; rfl) | (simp [w_reach, h1, h2]; done)
      · exact ⟨by rw [ht]; exact hP.sub [0, 1, 2, 3, 4, 5] rfl, hD.sub [0, 1, 2, 3, 4, 5] (by decide) rfl⟩
set_option maxHeartbeats 4000000 in
set_option maxRecDepth 100000 in
theorem c_Ways_goOn (l : Launch) (D : va_G) (cI cZ : ClassId) (tN tG : Nat) (hz : Nat) (pr po pn : Nat) (kd sz ac : Int32) (fo fn : Nat → Int32) (wy re wa : Nat) (fr fw : Nat → Int32) (wc : Int32) (k h : Int32) : Met l y_Ways_goOn w_Ways_goOn (rmk 3) (va_Pc [.ref wy, .ref pr, .int k, .int h] (MZ D cI cZ tN tG [(pr, .inr (1, [.int kd, .int sz, .int ac, .ref po, .ref pn])), (po, .inl (cI, 64, .inl fo)), (pn, .inl (cI, 64, .inl fn)), (wy, .inr (2, [.ref re, .ref wa, .int wc])), (re, .inl (cI, 64, .inl fr)), (wa, .inl (cI, 576, .inl fw))] hz)) (va_Qv (fun u : WS => u = w_goOn kd sz ac fo fn k h (fr, fw, wc)) (fun u t => ME D (va_A [(pr, .inr (1, [.int kd, .int sz, .int ac, .ref po, .ref pn])), (po, .inl (cI, 64, .inl fo)), (pn, .inl (cI, 64, .inl fn)), (wy, .inr (2, [.ref re, .ref wa, .int wc])), (re, .inl (cI, 64, .inl fr)), (wa, .inl (cI, 576, .inl fw))] hz) [(pr, .inr (1, [.int kd, .int sz, .int ac, .ref po, .ref pn])), (po, .inl (cI, 64, .inl fo)), (pn, .inl (cI, 64, .inl fn)), (wy, .inr (2, [.ref re, .ref wa, .int u.2.2])), (re, .inl (cI, 64, .inl u.1)), (wa, .inl (cI, 576, .inl u.2.1))] t) (va_A [(pr, .inr (1, [.int kd, .int sz, .int ac, .ref po, .ref pn])), (po, .inl (cI, 64, .inl fo)), (pn, .inl (cI, 64, .inl fn)), (wy, .inr (2, [.ref re, .ref wa, .int wc])), (re, .inl (cI, 64, .inl fr)), (wa, .inl (cI, 576, .inl fw))] hz)) 0 0 (va_A [(pr, .inr (1, [.int kd, .int sz, .int ac, .ref po, .ref pn])), (po, .inl (cI, 64, .inl fo)), (pn, .inl (cI, 64, .inl fn)), (wy, .inr (2, [.ref re, .ref wa, .int wc])), (re, .inl (cI, 64, .inl fr)), (wa, .inl (cI, 576, .inl fw))] hz) := by
  refine Met.ofW (cc := b_Ways_goOn) (maxL := 6) (ret := none) (by decide) rfl ?_
  intro p e s m args below meth c s₁ B hml hv
  obtain ⟨rfl, hsz, hP, hE, hD0, hZ⟩ := hv
  have hx := B.exec
  have hb := B.bytes
  have hr := B.returns
  have hts : ∀ w ∈ gW, w.before _ s = true := fun w h => atoms_spec (ws := w_Ways_goOn) B.pre w (List.mem_cons_of_mem _ h)
  have hown : s.vm.findClass R_Ways = some m.cls := findClass_of_methodNamed B.named
  have hlocks := B.notSynchronized
  subst hsz
  have hD := hD0.self (sz := s.heap.size)
  have hA : ∀ q : Nat, s.heap.size ≤ q → va_A [(pr, .inr (1, [.int kd, .int sz, .int ac, .ref po, .ref pn])), (po, .inl (cI, 64, .inl fo)), (pn, .inl (cI, 64, .inl fn)), (wy, .inr (2, [.ref re, .ref wa, .int wc])), (re, .inl (cI, 64, .inl fr)), (wa, .inl (cI, 576, .inl fw))] s.heap.size q := fun q h => Or.inr h
  generalize va_A [(pr, .inr (1, [.int kd, .int sz, .int ac, .ref po, .ref pn])), (po, .inl (cI, 64, .inl fo)), (pn, .inl (cI, 64, .inl fn)), (wy, .inr (2, [.ref re, .ref wa, .int wc])), (re, .inl (cI, 64, .inl fr)), (wa, .inl (cI, 576, .inl fw))] s.heap.size = A at hD hA hZ ⊢
  have hS : va_S A s.heap s.heap [] := va_S.rf
  have hP : va_P D classes [(pr, .inr (1, [.int kd, .int sz, .int ac, .ref po, .ref pn])), (po, .inl (cI, 64, .inl fo)), (pn, .inl (cI, 64, .inl fn)), (wy, .inr (2, [.ref re, .ref wa, .int wc])), (re, .inl (cI, 64, .inl fr)), (wa, .inl (cI, 576, .inl fw))] s.heap := hP
  have hD : va_D A [(pr, .inr (1, [.int kd, .int sz, .int ac, .ref po, .ref pn])), (po, .inl (cI, 64, .inl fo)), (pn, .inl (cI, 64, .inl fn)), (wy, .inr (2, [.ref re, .ref wa, .int wc])), (re, .inl (cI, 64, .inl fr)), (wa, .inl (cI, 576, .inl fw))] := hD
  have hl := lv_entry ([.ref wy, .ref pr, .int k, .int h]) (n := 6) (Nat.le_of_ble_eq_true rfl)
  rw [lg_entry_eq]
  generalize (lg_sl ([.ref wy, .ref pr, .int k, .int h]) ++ List.replicate (6 - (lg_sl ([.ref wy, .ref pr, .int k, .int h])).length) Slot.unset).toArray = ls at hl ⊢
  have hl : lv_has ls 6 [(0, .ref wy), (1, .ref pr), (2, .int k), (3, .int h)] := hl
  refine lv_aload_n hx hb d_Ways_goOn_0 rfl (lv_at hl 1 rfl) ?_
  refine lv_iload_n hx hb d_Ways_goOn_1 rfl (lv_at hl 2 rfl) ?_
  refine lv_iload_n hx hb d_Ways_goOn_2 rfl (lv_at hl 3 rfl) ?_
  refine vp_callSi (va_Run.run (va_runV (As := [.int k, .int h]) (rest := []) ⟨hx, hb, hml, hown, hts⟩ (c_Program_canBeDone l D cI cZ tN tG pr po pn kd sz ac fo fn k h) (cwV 2 hts (gd4 k_183 k_184 k_185 k_19 k_186) rfl rfl rfl (by decide +kernel) ⟨Nat.le_of_ble_eq_true rfl, Nat.le_of_ble_eq_true rfl⟩) ⟨PZ_blind, va_recv (q0 := 0) (ci := 1) hE.1 hP rfl rfl, pz_pre hE hZ hS (hP.sub [0, 1, 2] rfl)⟩ rfl rfl hl.1 rfl (lv_room (Nat.le_of_ble_eq_true rfl)) d_Ways_goOn_3 ⟨Nat.zero_le _, Nat.zero_le _⟩)) (fun r hq => ?_)
  subst hq
  refine lv_if_ne (tgt := 10) hx hb d_Ways_goOn_6 (by decide) (fun h1 => ?_) (fun h1 => ?_)
  · -- ¬ (p_cbd kd sz ac fo fn k h) = 0
    refine lv_aload_n hx hb d_Ways_goOn_10 rfl (lv_at hl 1 rfl) ?_
    refine lv_iload_n hx hb d_Ways_goOn_11 rfl (lv_at hl 2 rfl) ?_
    refine vp_callSi (va_Run.run (va_runV (As := [.int k]) (rest := []) ⟨hx, hb, hml, hown, hts⟩ (c_Program_opAt l D cI cZ tN tG pr po pn kd sz ac fo fn k) (cwV 1 hts (gd4 k_218 k_188 k_189 k_19 k_190) rfl rfl rfl (by decide +kernel) ⟨Nat.le_of_ble_eq_true rfl, Nat.le_of_ble_eq_true rfl⟩) ⟨PZ_blind, va_recv (q0 := 0) (ci := 1) hE.1 hP rfl rfl, pz_pre hE hZ hS (hP.sub [0, 1, 2] rfl)⟩ rfl rfl hl.1 rfl (lv_room (Nat.le_of_ble_eq_true rfl)) d_Ways_goOn_12 ⟨Nat.zero_le _, Nat.zero_le _⟩)) (fun r hq => ?_)
    subst hq
    refine lv_istore hx hb d_Ways_goOn_15 hl (by decide) rfl (fun ls hl => ?_)
    have hl : lv_has ls 6 [(4, .int (rd fo 64 k)), (0, .ref wy), (1, .ref pr), (2, .int k), (3, .int h)] := hl
    refine lv_iload_n hx hb d_Ways_goOn_17 rfl (lv_at hl 4 rfl) ?_
    refine lv_iload hx hb d_Ways_goOn_18 (lv_at hl 0 rfl) ?_
    refine vp_callSi (va_Run.run (va_runS (As := [.int (rd fo 64 k)]) (rest := [.int h]) ⟨hx, hb, hml, hown, hts⟩ (c_Op_growth l D cI cZ tN tG (rd fo 64 k)) (va_cwS 1 hts (gd3 k_219 k_214 k_24 k_215) rfl rfl rfl (by decide +kernel) ⟨Nat.le_of_ble_eq_true rfl, Nat.le_of_ble_eq_true rfl⟩) ⟨PZ_blind, pz_pre hE hZ hS (hP.sub [] rfl)⟩ rfl rfl hl.1 rfl (lv_room (Nat.le_of_ble_eq_true rfl)) d_Ways_goOn_20 ⟨Nat.zero_le _, Nat.zero_le _⟩)) (fun r hq => ?_)
    subst hq
    refine lv_iadd hx hb d_Ways_goOn_23 ?_
    refine lv_istore hx hb d_Ways_goOn_24 hl (by decide) rfl (fun ls hl => ?_)
    have hl : lv_has ls 6 [(5, .int (h + (o_grow (rd fo 64 k)))), (4, .int (rd fo 64 k)), (0, .ref wy), (1, .ref pr), (2, .int k), (3, .int h)] := hl
    refine lv_iload hx hb d_Ways_goOn_26 (lv_at hl 1 rfl) ?_
    refine vp_callSi (va_Run.run (va_runS (As := [.int (rd fo 64 k)]) (rest := []) ⟨hx, hb, hml, hown, hts⟩ (c_Op_hasNext l (rd fo 64 k)) (va_cwS 1 hts (gd3 k_220 k_204 k_24 k_205) rfl rfl rfl (by decide +kernel) ⟨Nat.le_of_ble_eq_true rfl, Nat.le_of_ble_eq_true rfl⟩) ⟨fun _ _ _ _ q => q, fun _ _ _ => ⟨rfl, trivial⟩⟩ rfl rfl hl.1 rfl (lv_room (Nat.le_of_ble_eq_true rfl)) d_Ways_goOn_28 ⟨Nat.zero_le _, Nat.zero_le _⟩)) (fun r hq => ?_)
    subst hq
    refine lv_if_eq (tgt := 44) hx hb d_Ways_goOn_31 (by decide) (fun h2 => ?_) (fun h2 => ?_)
    · -- (o_next (rd fo 64 k)) = 0
      refine lv_iload hx hb d_Ways_goOn_44 (lv_at hl 1 rfl) ?_
      refine vp_callSi (va_Run.run (va_runS (As := [.int (rd fo 64 k)]) (rest := []) ⟨hx, hb, hml, hown, hts⟩ (c_Op_jumps l (rd fo 64 k)) (va_cwS 1 hts (gd3 k_221 k_222 k_24 k_223) rfl rfl rfl (by decide +kernel) ⟨Nat.le_of_ble_eq_true rfl, Nat.le_of_ble_eq_true rfl⟩) ⟨fun _ _ _ _ q => q, fun _ _ _ => ⟨rfl, trivial⟩⟩ rfl rfl hl.1 rfl (lv_room (Nat.le_of_ble_eq_true rfl)) d_Ways_goOn_46 ⟨Nat.zero_le _, Nat.zero_le _⟩)) (fun r hq => ?_)
      subst hq
      refine lv_if_eq (tgt := 64) hx hb d_Ways_goOn_49 (by decide) (fun h3 => ?_) (fun h3 => ?_)
      · -- (o_jump (rd fo 64 k)) = 0
        refine W.vret hx hb hr (fun t ht hW => ⟨⟨(fr, fw, wc), rfl, ?_, ?_⟩, hS.F ht⟩) hS.2.2 d_Ways_goOn_64
        · first | (simp only [w_goOn, h1, h2, h3, if_true, if_false, eq_self, not_true_eq_false, not_false_eq_true, ne_eq]; done) | (simp only [w_goOn, h1, h2, h3, if_true, if_false, eq_self, not_true_eq_false, not_false_eq_true, ne_eq]; rfl) | (simp [w_goOn, h1, h2, h3]; done)
        · exact ⟨by rw [ht]; exact hP.sub [0, 1, 2, 3, 4, 5] rfl, hD.sub [0, 1, 2, 3, 4, 5] (by decide) rfl⟩
      · -- ¬ (o_jump (rd fo 64 k)) = 0
        refine lv_aload_n hx hb d_Ways_goOn_52 rfl (lv_at hl 2 rfl) ?_
        refine lv_aload_n hx hb d_Ways_goOn_53 rfl (lv_at hl 3 rfl) ?_
        refine lv_aload_n hx hb d_Ways_goOn_54 rfl (lv_at hl 3 rfl) ?_
        refine lv_iload_n hx hb d_Ways_goOn_55 rfl (lv_at hl 4 rfl) ?_
        refine vp_callSi (va_Run.run (va_runV (As := [.int k]) (rest := [.ref pr, .ref wy]) ⟨hx, hb, hml, hown, hts⟩ (c_Program_nAt l D cI cZ tN tG pr po pn kd sz ac fo fn k) (cwV 1 hts (gd4 k_224 k_225 k_226 k_19 k_227) rfl rfl rfl (by decide +kernel) ⟨Nat.le_of_ble_eq_true rfl, Nat.le_of_ble_eq_true rfl⟩) ⟨PZ_blind, va_recv (q0 := 0) (ci := 1) hE.1 hP rfl rfl, pz_pre hE hZ hS (hP.sub [0, 1, 2] rfl)⟩ rfl rfl hl.1 rfl (lv_room (Nat.le_of_ble_eq_true rfl)) d_Ways_goOn_56 ⟨Nat.zero_le _, Nat.zero_le _⟩)) (fun r hq => ?_)
        subst hq
        refine lv_iload hx hb d_Ways_goOn_59 (lv_at hl 0 rfl) ?_
        have hPc := hP.sub (ws' := [(pr, .inr (1, [.int kd, .int sz, .int ac, .ref po, .ref pn])), (po, .inl (cI, 64, .inl fo)), (pn, .inl (cI, 64, .inl fn)), (wy, .inr (2, [.ref re, .ref wa, .int wc])), (re, .inl (cI, 64, .inl fr)), (wa, .inl (cI, 576, .inl fw))]) [0, 1, 2, 3, 4, 5] rfl
        have hDc := hD.sub (ws' := [(pr, .inr (1, [.int kd, .int sz, .int ac, .ref po, .ref pn])), (po, .inl (cI, 64, .inl fo)), (pn, .inl (cI, 64, .inl fn)), (wy, .inr (2, [.ref re, .ref wa, .int wc])), (re, .inl (cI, 64, .inl fr)), (wa, .inl (cI, 576, .inl fw))]) [0, 1, 2, 3, 4, 5] (by decide) rfl
        have hFc := va_free (wc := [(pr, .inr (1, [.int kd, .int sz, .int ac, .ref po, .ref pn])), (po, .inl (cI, 64, .inl fo)), (pn, .inl (cI, 64, .inl fn)), (wy, .inr (2, [.ref re, .ref wa, .int wc])), (re, .inl (cI, 64, .inl fr)), (wa, .inl (cI, 576, .inl fw))]) hD hS hA [0, 1, 2, 3, 4, 5] rfl
        refine va_callv (va_runV (As := [.ref pr, .int (rd fn 64 k), .int (h + (o_grow (rd fo 64 k)))]) (rest := []) ⟨hx, hb, hml, hown, hts⟩ (c_Ways_reach l D cI cZ tN tG s.heap.size pr po pn kd sz ac fo fn wy re wa fr fw wc (rd fn 64 k) (h + (o_grow (rd fo 64 k)))) (cwV 3 hts (gd4 k_163 k_165 k_0 k_20 k_166) rfl rfl rfl (by decide +kernel) ⟨Nat.le_of_ble_eq_true rfl, Nat.le_of_ble_eq_true rfl⟩) ⟨MZ_blind, va_recv (q0 := 3) (ci := 2) hE.1 hP rfl rfl, mz_pre hE hZ hS hPc hDc hFc⟩ rfl rfl hl.1 rfl (lv_room (Nat.le_of_ble_eq_true rfl)) d_Ways_goOn_61 ⟨Nat.zero_le _, Nat.zero_le _⟩) hS (fun q _ h => hFc q h) hFc (fun u t H1 locs ht hvm hw hB hz1 hk1 hS => ?_)
        obtain ⟨hP1, hD1⟩ := hB
        rw [ht] at hP1
        subst hw
        obtain ⟨hP, hD⟩ := va_join (wr := []) (w1 := [(pr, .inr (1, [.int kd, .int sz, .int ac, .ref po, .ref pn])), (po, .inl (cI, 64, .inl fo)), (pn, .inl (cI, 64, .inl fn)), (wy, .inr (2, [.ref re, .ref wa, .int ((w_reach sz (rd fn 64 k) (h + (o_grow (rd fo 64 k))) (fr, fw, wc)).2.2)])), (re, .inl (cI, 64, .inl ((w_reach sz (rd fn 64 k) (h + (o_grow (rd fo 64 k))) (fr, fw, wc)).1))), (wa, .inl (cI, 576, .inl ((w_reach sz (rd fn 64 k) (h + (o_grow (rd fo 64 k))) (fr, fw, wc)).2.1)))]) hP hD [0, 1, 2, 3, 4, 5] [] rfl rfl (by decide) (by decide) hk1 hFc hP1 hD1
        generalize H1 = H at hP hS ⊢
        have hP : va_P D classes [(pr, .inr (1, [.int kd, .int sz, .int ac, .ref po, .ref pn])), (po, .inl (cI, 64, .inl fo)), (pn, .inl (cI, 64, .inl fn)), (wy, .inr (2, [.ref re, .ref wa, .int ((w_reach sz (rd fn 64 k) (h + (o_grow (rd fo 64 k))) (fr, fw, wc)).2.2)])), (re, .inl (cI, 64, .inl ((w_reach sz (rd fn 64 k) (h + (o_grow (rd fo 64 k))) (fr, fw, wc)).1))), (wa, .inl (cI, 576, .inl ((w_reach sz (rd fn 64 k) (h + (o_grow (rd fo 64 k))) (fr, fw, wc)).2.1)))] H := hP
        have hD : va_D A [(pr, .inr (1, [.int kd, .int sz, .int ac, .ref po, .ref pn])), (po, .inl (cI, 64, .inl fo)), (pn, .inl (cI, 64, .inl fn)), (wy, .inr (2, [.ref re, .ref wa, .int ((w_reach sz (rd fn 64 k) (h + (o_grow (rd fo 64 k))) (fr, fw, wc)).2.2)])), (re, .inl (cI, 64, .inl ((w_reach sz (rd fn 64 k) (h + (o_grow (rd fo 64 k))) (fr, fw, wc)).1))), (wa, .inl (cI, 576, .inl ((w_reach sz (rd fn 64 k) (h + (o_grow (rd fo 64 k))) (fr, fw, wc)).2.1)))] := hD
        refine W.vret hx hb hr (fun t ht hW => ⟨⟨((w_reach sz (rd fn 64 k) (h + (o_grow (rd fo 64 k))) (fr, fw, wc)).1, (w_reach sz (rd fn 64 k) (h + (o_grow (rd fo 64 k))) (fr, fw, wc)).2.1, (w_reach sz (rd fn 64 k) (h + (o_grow (rd fo 64 k))) (fr, fw, wc)).2.2), rfl, ?_, ?_⟩, hS.F ht⟩) hS.2.2 d_Ways_goOn_64
        · first | (simp only [w_goOn, h1, h2, h3, if_true, if_false, eq_self, not_true_eq_false, not_false_eq_true, ne_eq]; done) | (simp only [w_goOn, h1, h2, h3, if_true, if_false, eq_self, not_true_eq_false, not_false_eq_true, ne_eq]; rfl) | (simp [w_goOn, h1, h2, h3]; done)
        · exact ⟨by rw [ht]; exact hP.sub [0, 1, 2, 3, 4, 5] rfl, hD.sub [0, 1, 2, 3, 4, 5] (by decide) rfl⟩
    · -- ¬ (o_next (rd fo 64 k)) = 0
      refine lv_aload_n hx hb d_Ways_goOn_34 rfl (lv_at hl 2 rfl) ?_
      refine lv_aload_n hx hb d_Ways_goOn_35 rfl (lv_at hl 3 rfl) ?_
      refine lv_iload_n hx hb d_Ways_goOn_36 rfl (lv_at hl 4 rfl) ?_
      refine lv_iconst (v := 1) hx hb d_Ways_goOn_37 (by decide) ?_
      refine lv_iadd hx hb d_Ways_goOn_38 ?_
      refine lv_iload hx hb d_Ways_goOn_39 (lv_at hl 0 rfl) ?_
      have hPc := hP.sub (ws' := [(pr, .inr (1, [.int kd, .int sz, .int ac, .ref po, .ref pn])), (po, .inl (cI, 64, .inl fo)), (pn, .inl (cI, 64, .inl fn)), (wy, .inr (2, [.ref re, .ref wa, .int wc])), (re, .inl (cI, 64, .inl fr)), (wa, .inl (cI, 576, .inl fw))]) [0, 1, 2, 3, 4, 5] rfl
      have hDc := hD.sub (ws' := [(pr, .inr (1, [.int kd, .int sz, .int ac, .ref po, .ref pn])), (po, .inl (cI, 64, .inl fo)), (pn, .inl (cI, 64, .inl fn)), (wy, .inr (2, [.ref re, .ref wa, .int wc])), (re, .inl (cI, 64, .inl fr)), (wa, .inl (cI, 576, .inl fw))]) [0, 1, 2, 3, 4, 5] (by decide) rfl
      have hFc := va_free (wc := [(pr, .inr (1, [.int kd, .int sz, .int ac, .ref po, .ref pn])), (po, .inl (cI, 64, .inl fo)), (pn, .inl (cI, 64, .inl fn)), (wy, .inr (2, [.ref re, .ref wa, .int wc])), (re, .inl (cI, 64, .inl fr)), (wa, .inl (cI, 576, .inl fw))]) hD hS hA [0, 1, 2, 3, 4, 5] rfl
      refine va_callv (va_runV (As := [.ref pr, .int (k + 1), .int (h + (o_grow (rd fo 64 k)))]) (rest := []) ⟨hx, hb, hml, hown, hts⟩ (c_Ways_reach l D cI cZ tN tG s.heap.size pr po pn kd sz ac fo fn wy re wa fr fw wc (k + 1) (h + (o_grow (rd fo 64 k)))) (cwV 3 hts (gd4 k_163 k_165 k_0 k_20 k_166) rfl rfl rfl (by decide +kernel) ⟨Nat.le_of_ble_eq_true rfl, Nat.le_of_ble_eq_true rfl⟩) ⟨MZ_blind, va_recv (q0 := 3) (ci := 2) hE.1 hP rfl rfl, mz_pre hE hZ hS hPc hDc hFc⟩ rfl rfl hl.1 rfl (lv_room (Nat.le_of_ble_eq_true rfl)) d_Ways_goOn_41 ⟨Nat.zero_le _, Nat.zero_le _⟩) hS (fun q _ h => hFc q h) hFc (fun u t H1 locs ht hvm hw hB hz1 hk1 hS => ?_)
      obtain ⟨hP1, hD1⟩ := hB
      rw [ht] at hP1
      subst hw
      obtain ⟨hP, hD⟩ := va_join (wr := []) (w1 := [(pr, .inr (1, [.int kd, .int sz, .int ac, .ref po, .ref pn])), (po, .inl (cI, 64, .inl fo)), (pn, .inl (cI, 64, .inl fn)), (wy, .inr (2, [.ref re, .ref wa, .int ((w_reach sz (k + 1) (h + (o_grow (rd fo 64 k))) (fr, fw, wc)).2.2)])), (re, .inl (cI, 64, .inl ((w_reach sz (k + 1) (h + (o_grow (rd fo 64 k))) (fr, fw, wc)).1))), (wa, .inl (cI, 576, .inl ((w_reach sz (k + 1) (h + (o_grow (rd fo 64 k))) (fr, fw, wc)).2.1)))]) hP hD [0, 1, 2, 3, 4, 5] [] rfl rfl (by decide) (by decide) hk1 hFc hP1 hD1
      generalize H1 = H at hP hS ⊢
      have hP : va_P D classes [(pr, .inr (1, [.int kd, .int sz, .int ac, .ref po, .ref pn])), (po, .inl (cI, 64, .inl fo)), (pn, .inl (cI, 64, .inl fn)), (wy, .inr (2, [.ref re, .ref wa, .int ((w_reach sz (k + 1) (h + (o_grow (rd fo 64 k))) (fr, fw, wc)).2.2)])), (re, .inl (cI, 64, .inl ((w_reach sz (k + 1) (h + (o_grow (rd fo 64 k))) (fr, fw, wc)).1))), (wa, .inl (cI, 576, .inl ((w_reach sz (k + 1) (h + (o_grow (rd fo 64 k))) (fr, fw, wc)).2.1)))] H := hP
      have hD : va_D A [(pr, .inr (1, [.int kd, .int sz, .int ac, .ref po, .ref pn])), (po, .inl (cI, 64, .inl fo)), (pn, .inl (cI, 64, .inl fn)), (wy, .inr (2, [.ref re, .ref wa, .int ((w_reach sz (k + 1) (h + (o_grow (rd fo 64 k))) (fr, fw, wc)).2.2)])), (re, .inl (cI, 64, .inl ((w_reach sz (k + 1) (h + (o_grow (rd fo 64 k))) (fr, fw, wc)).1))), (wa, .inl (cI, 576, .inl ((w_reach sz (k + 1) (h + (o_grow (rd fo 64 k))) (fr, fw, wc)).2.1)))] := hD
      refine lv_iload hx hb d_Ways_goOn_44 (lv_at hl 1 rfl) ?_
      refine vp_callSi (va_Run.run (va_runS (As := [.int (rd fo 64 k)]) (rest := []) ⟨hx, hb, hml, hown, hts⟩ (c_Op_jumps l (rd fo 64 k)) (va_cwS 1 hts (gd3 k_221 k_222 k_24 k_223) rfl rfl rfl (by decide +kernel) ⟨Nat.le_of_ble_eq_true rfl, Nat.le_of_ble_eq_true rfl⟩) ⟨fun _ _ _ _ q => q, fun _ _ _ => ⟨rfl, trivial⟩⟩ rfl rfl hl.1 rfl (lv_room (Nat.le_of_ble_eq_true rfl)) d_Ways_goOn_46 ⟨Nat.zero_le _, Nat.zero_le _⟩)) (fun r hq => ?_)
      subst hq
      refine lv_if_eq (tgt := 64) hx hb d_Ways_goOn_49 (by decide) (fun h4 => ?_) (fun h4 => ?_)
      · -- (o_jump (rd fo 64 k)) = 0
        refine W.vret hx hb hr (fun t ht hW => ⟨⟨((w_reach sz (k + 1) (h + (o_grow (rd fo 64 k))) (fr, fw, wc)).1, (w_reach sz (k + 1) (h + (o_grow (rd fo 64 k))) (fr, fw, wc)).2.1, (w_reach sz (k + 1) (h + (o_grow (rd fo 64 k))) (fr, fw, wc)).2.2), rfl, ?_, ?_⟩, hS.F ht⟩) hS.2.2 d_Ways_goOn_64
        · first | (simp only [w_goOn, h1, h2, h4, if_true, if_false, eq_self, not_true_eq_false, not_false_eq_true, ne_eq]; done) | (simp only [w_goOn, h1, h2, h4, if_true, if_false, eq_self, not_true_eq_false, not_false_eq_true, ne_eq]; rfl) | (simp [w_goOn, h1, h2, h4]; done)
        · exact ⟨by rw [ht]; exact hP.sub [0, 1, 2, 3, 4, 5] rfl, hD.sub [0, 1, 2, 3, 4, 5] (by decide) rfl⟩
      · -- ¬ (o_jump (rd fo 64 k)) = 0
        refine lv_aload_n hx hb d_Ways_goOn_52 rfl (lv_at hl 2 rfl) ?_
        refine lv_aload_n hx hb d_Ways_goOn_53 rfl (lv_at hl 3 rfl) ?_
        refine lv_aload_n hx hb d_Ways_goOn_54 rfl (lv_at hl 3 rfl) ?_
        refine lv_iload_n hx hb d_Ways_goOn_55 rfl (lv_at hl 4 rfl) ?_
        refine vp_callSi (va_Run.run (va_runV (As := [.int k]) (rest := [.ref pr, .ref wy]) ⟨hx, hb, hml, hown, hts⟩ (c_Program_nAt l D cI cZ tN tG pr po pn kd sz ac fo fn k) (cwV 1 hts (gd4 k_224 k_225 k_226 k_19 k_227) rfl rfl rfl (by decide +kernel) ⟨Nat.le_of_ble_eq_true rfl, Nat.le_of_ble_eq_true rfl⟩) ⟨PZ_blind, va_recv (q0 := 0) (ci := 1) hE.1 hP rfl rfl, pz_pre hE hZ hS (hP.sub [0, 1, 2] rfl)⟩ rfl rfl hl.1 rfl (lv_room (Nat.le_of_ble_eq_true rfl)) d_Ways_goOn_56 ⟨Nat.zero_le _, Nat.zero_le _⟩)) (fun r hq => ?_)
        subst hq
        refine lv_iload hx hb d_Ways_goOn_59 (lv_at hl 0 rfl) ?_
        have hPc := hP.sub (ws' := [(pr, .inr (1, [.int kd, .int sz, .int ac, .ref po, .ref pn])), (po, .inl (cI, 64, .inl fo)), (pn, .inl (cI, 64, .inl fn)), (wy, .inr (2, [.ref re, .ref wa, .int ((w_reach sz (k + 1) (h + (o_grow (rd fo 64 k))) (fr, fw, wc)).2.2)])), (re, .inl (cI, 64, .inl ((w_reach sz (k + 1) (h + (o_grow (rd fo 64 k))) (fr, fw, wc)).1))), (wa, .inl (cI, 576, .inl ((w_reach sz (k + 1) (h + (o_grow (rd fo 64 k))) (fr, fw, wc)).2.1)))]) [0, 1, 2, 3, 4, 5] rfl
        have hDc := hD.sub (ws' := [(pr, .inr (1, [.int kd, .int sz, .int ac, .ref po, .ref pn])), (po, .inl (cI, 64, .inl fo)), (pn, .inl (cI, 64, .inl fn)), (wy, .inr (2, [.ref re, .ref wa, .int ((w_reach sz (k + 1) (h + (o_grow (rd fo 64 k))) (fr, fw, wc)).2.2)])), (re, .inl (cI, 64, .inl ((w_reach sz (k + 1) (h + (o_grow (rd fo 64 k))) (fr, fw, wc)).1))), (wa, .inl (cI, 576, .inl ((w_reach sz (k + 1) (h + (o_grow (rd fo 64 k))) (fr, fw, wc)).2.1)))]) [0, 1, 2, 3, 4, 5] (by decide) rfl
        have hFc := va_free (wc := [(pr, .inr (1, [.int kd, .int sz, .int ac, .ref po, .ref pn])), (po, .inl (cI, 64, .inl fo)), (pn, .inl (cI, 64, .inl fn)), (wy, .inr (2, [.ref re, .ref wa, .int ((w_reach sz (k + 1) (h + (o_grow (rd fo 64 k))) (fr, fw, wc)).2.2)])), (re, .inl (cI, 64, .inl ((w_reach sz (k + 1) (h + (o_grow (rd fo 64 k))) (fr, fw, wc)).1))), (wa, .inl (cI, 576, .inl ((w_reach sz (k + 1) (h + (o_grow (rd fo 64 k))) (fr, fw, wc)).2.1)))]) hD hS hA [0, 1, 2, 3, 4, 5] rfl
        refine va_callv (va_runV (As := [.ref pr, .int (rd fn 64 k), .int (h + (o_grow (rd fo 64 k)))]) (rest := []) ⟨hx, hb, hml, hown, hts⟩ (c_Ways_reach l D cI cZ tN tG H.size pr po pn kd sz ac fo fn wy re wa ((w_reach sz (k + 1) (h + (o_grow (rd fo 64 k))) (fr, fw, wc)).1) ((w_reach sz (k + 1) (h + (o_grow (rd fo 64 k))) (fr, fw, wc)).2.1) ((w_reach sz (k + 1) (h + (o_grow (rd fo 64 k))) (fr, fw, wc)).2.2) (rd fn 64 k) (h + (o_grow (rd fo 64 k)))) (cwV 3 hts (gd4 k_163 k_165 k_0 k_20 k_166) rfl rfl rfl (by decide +kernel) ⟨Nat.le_of_ble_eq_true rfl, Nat.le_of_ble_eq_true rfl⟩) ⟨MZ_blind, va_recv (q0 := 3) (ci := 2) hE.1 hP rfl rfl, mz_pre hE hZ hS hPc hDc hFc⟩ rfl rfl hl.1 rfl (lv_room (Nat.le_of_ble_eq_true rfl)) d_Ways_goOn_61 ⟨Nat.zero_le _, Nat.zero_le _⟩) hS (fun q _ h => hFc q h) hFc (fun u t H1 locs ht hvm hw hB hz1 hk1 hS => ?_)
        obtain ⟨hP1, hD1⟩ := hB
        rw [ht] at hP1
        subst hw
        obtain ⟨hP, hD⟩ := va_join (wr := []) (w1 := [(pr, .inr (1, [.int kd, .int sz, .int ac, .ref po, .ref pn])), (po, .inl (cI, 64, .inl fo)), (pn, .inl (cI, 64, .inl fn)), (wy, .inr (2, [.ref re, .ref wa, .int ((w_reach sz (rd fn 64 k) (h + (o_grow (rd fo 64 k))) (((w_reach sz (k + 1) (h + (o_grow (rd fo 64 k))) (fr, fw, wc)).1), ((w_reach sz (k + 1) (h + (o_grow (rd fo 64 k))) (fr, fw, wc)).2.1), ((w_reach sz (k + 1) (h + (o_grow (rd fo 64 k))) (fr, fw, wc)).2.2))).2.2)])), (re, .inl (cI, 64, .inl ((w_reach sz (rd fn 64 k) (h + (o_grow (rd fo 64 k))) (((w_reach sz (k + 1) (h + (o_grow (rd fo 64 k))) (fr, fw, wc)).1), ((w_reach sz (k + 1) (h + (o_grow (rd fo 64 k))) (fr, fw, wc)).2.1), ((w_reach sz (k + 1) (h + (o_grow (rd fo 64 k))) (fr, fw, wc)).2.2))).1))), (wa, .inl (cI, 576, .inl ((w_reach sz (rd fn 64 k) (h + (o_grow (rd fo 64 k))) (((w_reach sz (k + 1) (h + (o_grow (rd fo 64 k))) (fr, fw, wc)).1), ((w_reach sz (k + 1) (h + (o_grow (rd fo 64 k))) (fr, fw, wc)).2.1), ((w_reach sz (k + 1) (h + (o_grow (rd fo 64 k))) (fr, fw, wc)).2.2))).2.1)))]) hP hD [0, 1, 2, 3, 4, 5] [] rfl rfl (by decide) (by decide) hk1 hFc hP1 hD1
        generalize H1 = H at hP hS ⊢
        have hP : va_P D classes [(pr, .inr (1, [.int kd, .int sz, .int ac, .ref po, .ref pn])), (po, .inl (cI, 64, .inl fo)), (pn, .inl (cI, 64, .inl fn)), (wy, .inr (2, [.ref re, .ref wa, .int ((w_reach sz (rd fn 64 k) (h + (o_grow (rd fo 64 k))) (((w_reach sz (k + 1) (h + (o_grow (rd fo 64 k))) (fr, fw, wc)).1), ((w_reach sz (k + 1) (h + (o_grow (rd fo 64 k))) (fr, fw, wc)).2.1), ((w_reach sz (k + 1) (h + (o_grow (rd fo 64 k))) (fr, fw, wc)).2.2))).2.2)])), (re, .inl (cI, 64, .inl ((w_reach sz (rd fn 64 k) (h + (o_grow (rd fo 64 k))) (((w_reach sz (k + 1) (h + (o_grow (rd fo 64 k))) (fr, fw, wc)).1), ((w_reach sz (k + 1) (h + (o_grow (rd fo 64 k))) (fr, fw, wc)).2.1), ((w_reach sz (k + 1) (h + (o_grow (rd fo 64 k))) (fr, fw, wc)).2.2))).1))), (wa, .inl (cI, 576, .inl ((w_reach sz (rd fn 64 k) (h + (o_grow (rd fo 64 k))) (((w_reach sz (k + 1) (h + (o_grow (rd fo 64 k))) (fr, fw, wc)).1), ((w_reach sz (k + 1) (h + (o_grow (rd fo 64 k))) (fr, fw, wc)).2.1), ((w_reach sz (k + 1) (h + (o_grow (rd fo 64 k))) (fr, fw, wc)).2.2))).2.1)))] H := hP
        have hD : va_D A [(pr, .inr (1, [.int kd, .int sz, .int ac, .ref po, .ref pn])), (po, .inl (cI, 64, .inl fo)), (pn, .inl (cI, 64, .inl fn)), (wy, .inr (2, [.ref re, .ref wa, .int ((w_reach sz (rd fn 64 k) (h + (o_grow (rd fo 64 k))) (((w_reach sz (k + 1) (h + (o_grow (rd fo 64 k))) (fr, fw, wc)).1), ((w_reach sz (k + 1) (h + (o_grow (rd fo 64 k))) (fr, fw, wc)).2.1), ((w_reach sz (k + 1) (h + (o_grow (rd fo 64 k))) (fr, fw, wc)).2.2))).2.2)])), (re, .inl (cI, 64, .inl ((w_reach sz (rd fn 64 k) (h + (o_grow (rd fo 64 k))) (((w_reach sz (k + 1) (h + (o_grow (rd fo 64 k))) (fr, fw, wc)).1), ((w_reach sz (k + 1) (h + (o_grow (rd fo 64 k))) (fr, fw, wc)).2.1), ((w_reach sz (k + 1) (h + (o_grow (rd fo 64 k))) (fr, fw, wc)).2.2))).1))), (wa, .inl (cI, 576, .inl ((w_reach sz (rd fn 64 k) (h + (o_grow (rd fo 64 k))) (((w_reach sz (k + 1) (h + (o_grow (rd fo 64 k))) (fr, fw, wc)).1), ((w_reach sz (k + 1) (h + (o_grow (rd fo 64 k))) (fr, fw, wc)).2.1), ((w_reach sz (k + 1) (h + (o_grow (rd fo 64 k))) (fr, fw, wc)).2.2))).2.1)))] := hD
        refine W.vret hx hb hr (fun t ht hW => ⟨⟨((w_reach sz (rd fn 64 k) (h + (o_grow (rd fo 64 k))) (((w_reach sz (k + 1) (h + (o_grow (rd fo 64 k))) (fr, fw, wc)).1), ((w_reach sz (k + 1) (h + (o_grow (rd fo 64 k))) (fr, fw, wc)).2.1), ((w_reach sz (k + 1) (h + (o_grow (rd fo 64 k))) (fr, fw, wc)).2.2))).1, (w_reach sz (rd fn 64 k) (h + (o_grow (rd fo 64 k))) (((w_reach sz (k + 1) (h + (o_grow (rd fo 64 k))) (fr, fw, wc)).1), ((w_reach sz (k + 1) (h + (o_grow (rd fo 64 k))) (fr, fw, wc)).2.1), ((w_reach sz (k + 1) (h + (o_grow (rd fo 64 k))) (fr, fw, wc)).2.2))).2.1, (w_reach sz (rd fn 64 k) (h + (o_grow (rd fo 64 k))) (((w_reach sz (k + 1) (h + (o_grow (rd fo 64 k))) (fr, fw, wc)).1), ((w_reach sz (k + 1) (h + (o_grow (rd fo 64 k))) (fr, fw, wc)).2.1), ((w_reach sz (k + 1) (h + (o_grow (rd fo 64 k))) (fr, fw, wc)).2.2))).2.2), rfl, ?_, ?_⟩, hS.F ht⟩) hS.2.2 d_Ways_goOn_64
        · first | (simp only [w_goOn, h1, h2, h4, if_true, if_false, eq_self, not_true_eq_false, not_false_eq_true, ne_eq]; done) | (simp only [w_goOn, h1, h2, h4, if_true, if_false, eq_self, not_true_eq_false, not_false_eq_true, ne_eq]; rfl) | (simp [w_goOn, h1, h2, h4]; done)
        · exact ⟨by rw [ht]; exact hP.sub [0, 1, 2, 3, 4, 5] rfl, hD.sub [0, 1, 2, 3, 4, 5] (by decide) rfl⟩
  · -- (p_cbd kd sz ac fo fn k h) = 0
    refine W.vret hx hb hr (fun t ht hW => ⟨⟨(fr, fw, wc), rfl, ?_, ?_⟩, hS.F ht⟩) hS.2.2 d_Ways_goOn_9
    · first | (simp only [w_goOn, h1, if_true, if_false, eq_self, not_true_eq_false, not_false_eq_true, ne_eq]; done) | (simp only [w_goOn, h1, if_true, if_false, eq_self, not_true_eq_false, not_false_eq_true, ne_eq]; rfl) | (simp [w_goOn, h1]; done)
    · exact ⟨by rw [ht]; exact hP.sub [0, 1, 2, 3, 4, 5] rfl, hD.sub [0, 1, 2, 3, 4, 5] (by decide) rfl⟩
end
section
set_option maxHeartbeats 4000000 in
set_option maxRecDepth 100000 in
theorem c_Machine_push (l : Launch) (D : va_G) (cI cZ : ClassId) (tN tG : Nat) (hz : Nat) (mc ky vy gy ly sy : Nat) (res stp pcn : Int32) (fk fv fa fl fs : Nat → Int32) (hgt ap : Int32) (v : Int32) : Met l y_Machine_push w_Machine_push (rmk 1) (va_Pc [.ref mc, .int v] (MZ D cI cZ tN tG [(mc, .inr (3, [.int res, .int stp, .int pcn, .ref ky, .ref vy, .ref gy, .ref ly, .ref sy, .int hgt, .int ap])), (ky, .inl (cI, 20, .inl fk)), (vy, .inl (cI, 20, .inl fv)), (gy, .inl (cI, 3, .inl fa)), (ly, .inl (cI, 4, .inl fl)), (sy, .inl (cI, 8, .inl fs))] hz)) (va_Qv (fun _ : Unit => True) (fun u t => ME D (va_A [(mc, .inr (3, [.int res, .int stp, .int pcn, .ref ky, .ref vy, .ref gy, .ref ly, .ref sy, .int hgt, .int ap])), (ky, .inl (cI, 20, .inl fk)), (vy, .inl (cI, 20, .inl fv)), (gy, .inl (cI, 3, .inl fa)), (ly, .inl (cI, 4, .inl fl)), (sy, .inl (cI, 8, .inl fs))] hz) [(mc, .inr (3, [.int res, .int stp, .int pcn, .ref ky, .ref vy, .ref gy, .ref ly, .ref sy, .int (hgt + 1), .int ap])), (ky, .inl (cI, 20, .inl fk)), (vy, .inl (cI, 20, .inl fv)), (gy, .inl (cI, 3, .inl fa)), (ly, .inl (cI, 4, .inl fl)), (sy, .inl (cI, 8, .inl (wr fs 8 hgt v)))] t) (va_A [(mc, .inr (3, [.int res, .int stp, .int pcn, .ref ky, .ref vy, .ref gy, .ref ly, .ref sy, .int hgt, .int ap])), (ky, .inl (cI, 20, .inl fk)), (vy, .inl (cI, 20, .inl fv)), (gy, .inl (cI, 3, .inl fa)), (ly, .inl (cI, 4, .inl fl)), (sy, .inl (cI, 8, .inl fs))] hz)) 0 0 (va_A [(mc, .inr (3, [.int res, .int stp, .int pcn, .ref ky, .ref vy, .ref gy, .ref ly, .ref sy, .int hgt, .int ap])), (ky, .inl (cI, 20, .inl fk)), (vy, .inl (cI, 20, .inl fv)), (gy, .inl (cI, 3, .inl fa)), (ly, .inl (cI, 4, .inl fl)), (sy, .inl (cI, 8, .inl fs))] hz) := by
  refine Met.ofW (cc := b_Machine_push) (maxL := 2) (ret := none) (by decide) rfl ?_
  intro p e s m args below meth c s₁ B hml hv
  obtain ⟨rfl, hsz, hP, hE, hD0, hZ⟩ := hv
  have hx := B.exec
  have hb := B.bytes
  have hr := B.returns
  have hts : ∀ w ∈ gW, w.before _ s = true := fun w h => atoms_spec (ws := w_Machine_push) B.pre w (List.mem_cons_of_mem _ h)
  have hown : s.vm.findClass R_Machine = some m.cls := findClass_of_methodNamed B.named
  have hlocks := B.notSynchronized
  subst hsz
  have hD := hD0.self (sz := s.heap.size)
  have hA : ∀ q : Nat, s.heap.size ≤ q → va_A [(mc, .inr (3, [.int res, .int stp, .int pcn, .ref ky, .ref vy, .ref gy, .ref ly, .ref sy, .int hgt, .int ap])), (ky, .inl (cI, 20, .inl fk)), (vy, .inl (cI, 20, .inl fv)), (gy, .inl (cI, 3, .inl fa)), (ly, .inl (cI, 4, .inl fl)), (sy, .inl (cI, 8, .inl fs))] s.heap.size q := fun q h => Or.inr h
  generalize va_A [(mc, .inr (3, [.int res, .int stp, .int pcn, .ref ky, .ref vy, .ref gy, .ref ly, .ref sy, .int hgt, .int ap])), (ky, .inl (cI, 20, .inl fk)), (vy, .inl (cI, 20, .inl fv)), (gy, .inl (cI, 3, .inl fa)), (ly, .inl (cI, 4, .inl fl)), (sy, .inl (cI, 8, .inl fs))] s.heap.size = A at hD hA hZ ⊢
  have hS : va_S A s.heap s.heap [] := va_S.rf
  have hP : va_P D classes [(mc, .inr (3, [.int res, .int stp, .int pcn, .ref ky, .ref vy, .ref gy, .ref ly, .ref sy, .int hgt, .int ap])), (ky, .inl (cI, 20, .inl fk)), (vy, .inl (cI, 20, .inl fv)), (gy, .inl (cI, 3, .inl fa)), (ly, .inl (cI, 4, .inl fl)), (sy, .inl (cI, 8, .inl fs))] s.heap := hP
  have hD : va_D A [(mc, .inr (3, [.int res, .int stp, .int pcn, .ref ky, .ref vy, .ref gy, .ref ly, .ref sy, .int hgt, .int ap])), (ky, .inl (cI, 20, .inl fk)), (vy, .inl (cI, 20, .inl fv)), (gy, .inl (cI, 3, .inl fa)), (ly, .inl (cI, 4, .inl fl)), (sy, .inl (cI, 8, .inl fs))] := hD
  have hl := lv_entry ([.ref mc, .int v]) (n := 2) (Nat.le_of_ble_eq_true rfl)
  rw [lg_entry_eq]
  generalize (lg_sl ([.ref mc, .int v]) ++ List.replicate (2 - (lg_sl ([.ref mc, .int v])).length) Slot.unset).toArray = ls at hl ⊢
  have hl : lv_has ls 2 [(0, .ref mc), (1, .int v)] := hl
  refine lv_aload_n hx hb d_Machine_push_0 rfl (lv_at hl 0 rfl) ?_
  refine va_get (D := D) (ci := 3) (v := .ref sy) (C := R_Machine) (T := F_Machine) (N := 10) hx hb hts in_Machine hown hE.1 hP 0 rfl rfl 7 (by decide) (hts _ k_95) (fun _ h9 => h9) rfl d_Machine_push_1 ?_
  refine lv_aload_n hx hb d_Machine_push_4 rfl (lv_at hl 0 rfl) ?_
  refine va_get (D := D) (ci := 3) (v := .int hgt) (C := R_Machine) (T := F_Machine) (N := 10) hx hb hts in_Machine hown hE.1 hP 0 rfl rfl 8 (by decide) (hts _ k_96) (fun _ h9 => h9) rfl d_Machine_push_5 ?_
  refine lv_iload_n hx hb d_Machine_push_8 rfl (lv_at hl 1 rfl) ?_
  have hPc := hP.sub (ws' := [(sy, .inl (cI, 8, .inl fs))]) [5] rfl
  have hDc := hD.sub (ws' := [(sy, .inl (cI, 8, .inl fs))]) [5] (by decide) rfl
  have hFc := va_free (wc := [(sy, .inl (cI, 8, .inl fs))]) hD hS hA [5] rfl
  refine va_callv (va_runSN (As := [.ref sy, .int hgt, .int v]) (rest := []) ⟨hx, hb, hml, hown, hts⟩ (c_SJ_write l D cI cZ tN tG s.heap.size sy 8 fs hgt v (by decide)) ⟨va_cnB 3 hts (gd k_139) rfl rfl rfl (hE.2 _ nm_7) (hts _ k_18) (by decide +kernel) ⟨Nat.le_of_ble_eq_true rfl, Nat.le_of_ble_eq_true rfl⟩, hts _ k_138, trivial⟩ ⟨MZ_blind, mz_pre hE hZ hS hPc hDc hFc⟩ rfl rfl hl.1 rfl (lv_room (Nat.le_of_ble_eq_true rfl)) d_Machine_push_9 ⟨Nat.zero_le _, Nat.zero_le _⟩) hS (fun q _ h => hFc q h) hFc (fun u t H1 locs ht hvm hw hB hz1 hk1 hS => ?_)
  obtain ⟨hP1, hD1⟩ := hB
  rw [ht] at hP1
  subst hw
  obtain ⟨hP, hD⟩ := va_join (wr := [(mc, .inr (3, [.int res, .int stp, .int pcn, .ref ky, .ref vy, .ref gy, .ref ly, .ref sy, .int hgt, .int ap])), (ky, .inl (cI, 20, .inl fk)), (vy, .inl (cI, 20, .inl fv)), (gy, .inl (cI, 3, .inl fa)), (ly, .inl (cI, 4, .inl fl))]) (w1 := [(sy, .inl (cI, 8, .inl (wr fs 8 hgt v)))]) hP hD [5] [0, 1, 2, 3, 4] rfl rfl (by decide) (by decide) hk1 hFc hP1 hD1
  generalize H1 = H at hP hS ⊢
  have hP : va_P D classes [(mc, .inr (3, [.int res, .int stp, .int pcn, .ref ky, .ref vy, .ref gy, .ref ly, .ref sy, .int hgt, .int ap])), (ky, .inl (cI, 20, .inl fk)), (vy, .inl (cI, 20, .inl fv)), (gy, .inl (cI, 3, .inl fa)), (ly, .inl (cI, 4, .inl fl)), (sy, .inl (cI, 8, .inl (wr fs 8 hgt v)))] H := hP
  have hD : va_D A [(mc, .inr (3, [.int res, .int stp, .int pcn, .ref ky, .ref vy, .ref gy, .ref ly, .ref sy, .int hgt, .int ap])), (ky, .inl (cI, 20, .inl fk)), (vy, .inl (cI, 20, .inl fv)), (gy, .inl (cI, 3, .inl fa)), (ly, .inl (cI, 4, .inl fl)), (sy, .inl (cI, 8, .inl (wr fs 8 hgt v)))] := hD
  refine lv_aload_n hx hb d_Machine_push_12 rfl (lv_at hl 0 rfl) ?_
  refine lv_dup hx hb d_Machine_push_13 rfl ?_
  refine va_get (D := D) (ci := 3) (v := .int hgt) (C := R_Machine) (T := F_Machine) (N := 10) hx hb hts in_Machine hown hE.1 hP 0 rfl rfl 8 (by decide) (hts _ k_96) (fun _ h9 => h9) rfl d_Machine_push_14 ?_
  refine lv_iconst (v := 1) hx hb d_Machine_push_17 (by decide) ?_
  refine lv_iadd hx hb d_Machine_push_18 ?_
  refine va_put (D := D) (ci := 3) (v := .int (hgt + 1)) (ty := .int) (C := R_Machine) (T := F_Machine) (N := 10) hx hb hts in_Machine t_Machine t_Machine_ok n_Machine hown hE.1 hP hD hS 0 rfl rfl 8 (by decide) (hts _ k_96) (fun _ h9 => h9) rfl (by decide +kernel) rfl rfl (Nat.le_of_ble_eq_true rfl) d_Machine_push_19 (fun H locs hP hD hS => ?_)
  have hP : va_P D classes [(mc, .inr (3, [.int res, .int stp, .int pcn, .ref ky, .ref vy, .ref gy, .ref ly, .ref sy, .int (hgt + 1), .int ap])), (ky, .inl (cI, 20, .inl fk)), (vy, .inl (cI, 20, .inl fv)), (gy, .inl (cI, 3, .inl fa)), (ly, .inl (cI, 4, .inl fl)), (sy, .inl (cI, 8, .inl (wr fs 8 hgt v)))] H := hP
  have hD : va_D A [(mc, .inr (3, [.int res, .int stp, .int pcn, .ref ky, .ref vy, .ref gy, .ref ly, .ref sy, .int (hgt + 1), .int ap])), (ky, .inl (cI, 20, .inl fk)), (vy, .inl (cI, 20, .inl fv)), (gy, .inl (cI, 3, .inl fa)), (ly, .inl (cI, 4, .inl fl)), (sy, .inl (cI, 8, .inl (wr fs 8 hgt v)))] := hD
  refine W.vret hx hb hr (fun t ht hW => ⟨⟨(), rfl, ?_, ?_⟩, hS.F ht⟩) hS.2.2 d_Machine_push_22
  · trivial
  · exact ⟨by rw [ht]; exact hP.sub [0, 1, 2, 3, 4, 5] rfl, hD.sub [0, 1, 2, 3, 4, 5] (by decide) rfl⟩
set_option maxHeartbeats 4000000 in
set_option maxRecDepth 100000 in
theorem c_Machine_pop (l : Launch) (D : va_G) (cI cZ : ClassId) (tN tG : Nat) (hz : Nat) (mc ky vy gy ly sy : Nat) (res stp pcn : Int32) (fk fv fa fl fs : Nat → Int32) (hgt ap : Int32) : Met l y_Machine_pop w_Machine_pop (rmk 1) (va_Pc [.ref mc] (MZ D cI cZ tN tG [(mc, .inr (3, [.int res, .int stp, .int pcn, .ref ky, .ref vy, .ref gy, .ref ly, .ref sy, .int hgt, .int ap])), (ky, .inl (cI, 20, .inl fk)), (vy, .inl (cI, 20, .inl fv)), (gy, .inl (cI, 3, .inl fa)), (ly, .inl (cI, 4, .inl fl)), (sy, .inl (cI, 8, .inl fs))] hz)) (va_Qi (fun (r : Int32) (_ : Unit) => r = (rd fs 8 (hgt - 1))) (fun u t => ME D (va_A [(mc, .inr (3, [.int res, .int stp, .int pcn, .ref ky, .ref vy, .ref gy, .ref ly, .ref sy, .int hgt, .int ap])), (ky, .inl (cI, 20, .inl fk)), (vy, .inl (cI, 20, .inl fv)), (gy, .inl (cI, 3, .inl fa)), (ly, .inl (cI, 4, .inl fl)), (sy, .inl (cI, 8, .inl fs))] hz) [(mc, .inr (3, [.int res, .int stp, .int pcn, .ref ky, .ref vy, .ref gy, .ref ly, .ref sy, .int (hgt - 1), .int ap])), (ky, .inl (cI, 20, .inl fk)), (vy, .inl (cI, 20, .inl fv)), (gy, .inl (cI, 3, .inl fa)), (ly, .inl (cI, 4, .inl fl)), (sy, .inl (cI, 8, .inl fs))] t) (va_A [(mc, .inr (3, [.int res, .int stp, .int pcn, .ref ky, .ref vy, .ref gy, .ref ly, .ref sy, .int hgt, .int ap])), (ky, .inl (cI, 20, .inl fk)), (vy, .inl (cI, 20, .inl fv)), (gy, .inl (cI, 3, .inl fa)), (ly, .inl (cI, 4, .inl fl)), (sy, .inl (cI, 8, .inl fs))] hz)) 0 0 (va_A [(mc, .inr (3, [.int res, .int stp, .int pcn, .ref ky, .ref vy, .ref gy, .ref ly, .ref sy, .int hgt, .int ap])), (ky, .inl (cI, 20, .inl fk)), (vy, .inl (cI, 20, .inl fv)), (gy, .inl (cI, 3, .inl fa)), (ly, .inl (cI, 4, .inl fl)), (sy, .inl (cI, 8, .inl fs))] hz) := by
  refine Met.ofW (cc := b_Machine_pop) (maxL := 1) (ret := (some .int)) (by decide) rfl ?_
  intro p e s m args below meth c s₁ B hml hv
  obtain ⟨rfl, hsz, hP, hE, hD0, hZ⟩ := hv
  have hx := B.exec
  have hb := B.bytes
  have hr := B.returns
  have hts : ∀ w ∈ gW, w.before _ s = true := fun w h => atoms_spec (ws := w_Machine_pop) B.pre w (List.mem_cons_of_mem _ h)
  have hown : s.vm.findClass R_Machine = some m.cls := findClass_of_methodNamed B.named
  have hlocks := B.notSynchronized
  subst hsz
  have hD := hD0.self (sz := s.heap.size)
  have hA : ∀ q : Nat, s.heap.size ≤ q → va_A [(mc, .inr (3, [.int res, .int stp, .int pcn, .ref ky, .ref vy, .ref gy, .ref ly, .ref sy, .int hgt, .int ap])), (ky, .inl (cI, 20, .inl fk)), (vy, .inl (cI, 20, .inl fv)), (gy, .inl (cI, 3, .inl fa)), (ly, .inl (cI, 4, .inl fl)), (sy, .inl (cI, 8, .inl fs))] s.heap.size q := fun q h => Or.inr h
  generalize va_A [(mc, .inr (3, [.int res, .int stp, .int pcn, .ref ky, .ref vy, .ref gy, .ref ly, .ref sy, .int hgt, .int ap])), (ky, .inl (cI, 20, .inl fk)), (vy, .inl (cI, 20, .inl fv)), (gy, .inl (cI, 3, .inl fa)), (ly, .inl (cI, 4, .inl fl)), (sy, .inl (cI, 8, .inl fs))] s.heap.size = A at hD hA hZ ⊢
  have hS : va_S A s.heap s.heap [] := va_S.rf
  have hP : va_P D classes [(mc, .inr (3, [.int res, .int stp, .int pcn, .ref ky, .ref vy, .ref gy, .ref ly, .ref sy, .int hgt, .int ap])), (ky, .inl (cI, 20, .inl fk)), (vy, .inl (cI, 20, .inl fv)), (gy, .inl (cI, 3, .inl fa)), (ly, .inl (cI, 4, .inl fl)), (sy, .inl (cI, 8, .inl fs))] s.heap := hP
  have hD : va_D A [(mc, .inr (3, [.int res, .int stp, .int pcn, .ref ky, .ref vy, .ref gy, .ref ly, .ref sy, .int hgt, .int ap])), (ky, .inl (cI, 20, .inl fk)), (vy, .inl (cI, 20, .inl fv)), (gy, .inl (cI, 3, .inl fa)), (ly, .inl (cI, 4, .inl fl)), (sy, .inl (cI, 8, .inl fs))] := hD
  have hl := lv_entry ([.ref mc]) (n := 1) (Nat.le_of_ble_eq_true rfl)
  rw [lg_entry_eq]
  generalize (lg_sl ([.ref mc]) ++ List.replicate (1 - (lg_sl ([.ref mc])).length) Slot.unset).toArray = ls at hl ⊢
  have hl : lv_has ls 1 [(0, .ref mc)] := hl
  refine lv_aload_n hx hb d_Machine_pop_0 rfl (lv_at hl 0 rfl) ?_
  refine lv_dup hx hb d_Machine_pop_1 rfl ?_
  refine va_get (D := D) (ci := 3) (v := .int hgt) (C := R_Machine) (T := F_Machine) (N := 10) hx hb hts in_Machine hown hE.1 hP 0 rfl rfl 8 (by decide) (hts _ k_96) (fun _ h9 => h9) rfl d_Machine_pop_2 ?_
  refine lv_iconst (v := 1) hx hb d_Machine_pop_5 (by decide) ?_
  refine lv_isub hx hb d_Machine_pop_6 ?_
  refine va_put (D := D) (ci := 3) (v := .int (hgt - 1)) (ty := .int) (C := R_Machine) (T := F_Machine) (N := 10) hx hb hts in_Machine t_Machine t_Machine_ok n_Machine hown hE.1 hP hD hS 0 rfl rfl 8 (by decide) (hts _ k_96) (fun _ h9 => h9) rfl (by decide +kernel) rfl rfl (Nat.le_of_ble_eq_true rfl) d_Machine_pop_7 (fun H locs hP hD hS => ?_)
  have hP : va_P D classes [(mc, .inr (3, [.int res, .int stp, .int pcn, .ref ky, .ref vy, .ref gy, .ref ly, .ref sy, .int (hgt - 1), .int ap])), (ky, .inl (cI, 20, .inl fk)), (vy, .inl (cI, 20, .inl fv)), (gy, .inl (cI, 3, .inl fa)), (ly, .inl (cI, 4, .inl fl)), (sy, .inl (cI, 8, .inl fs))] H := hP
  have hD : va_D A [(mc, .inr (3, [.int res, .int stp, .int pcn, .ref ky, .ref vy, .ref gy, .ref ly, .ref sy, .int (hgt - 1), .int ap])), (ky, .inl (cI, 20, .inl fk)), (vy, .inl (cI, 20, .inl fv)), (gy, .inl (cI, 3, .inl fa)), (ly, .inl (cI, 4, .inl fl)), (sy, .inl (cI, 8, .inl fs))] := hD
  refine lv_aload_n hx hb d_Machine_pop_10 rfl (lv_at hl 0 rfl) ?_
  refine va_get (D := D) (ci := 3) (v := .ref sy) (C := R_Machine) (T := F_Machine) (N := 10) hx hb hts in_Machine hown hE.1 hP 0 rfl rfl 7 (by decide) (hts _ k_95) (fun _ h9 => h9) rfl d_Machine_pop_11 ?_
  refine lv_aload_n hx hb d_Machine_pop_14 rfl (lv_at hl 0 rfl) ?_
  refine va_get (D := D) (ci := 3) (v := .int (hgt - 1)) (C := R_Machine) (T := F_Machine) (N := 10) hx hb hts in_Machine hown hE.1 hP 0 rfl rfl 8 (by decide) (hts _ k_96) (fun _ h9 => h9) rfl d_Machine_pop_15 ?_
  refine vp_callSi (va_Run.run (va_runSN (As := [.ref sy, .int (hgt - 1)]) (rest := []) ⟨hx, hb, hml, hown, hts⟩ (c_SJ_read l sy 8 fs (hgt - 1) (by decide)) ⟨va_cnB 2 hts (gd k_177) rfl rfl rfl (hE.2 _ nm_8) (hts _ k_18) (by decide +kernel) ⟨Nat.le_of_ble_eq_true rfl, Nat.le_of_ble_eq_true rfl⟩, hts _ k_176, trivial⟩ (rp_pre hE.1 hP 5 0 rfl rfl) rfl rfl hl.1 rfl (lv_room (Nat.le_of_ble_eq_true rfl)) d_Machine_pop_18 ⟨Nat.zero_le _, Nat.zero_le _⟩)) (fun r hq => ?_)
  subst hq
  refine W.iret hx hb hr (fun t ht hW => ⟨⟨(rd fs 8 (hgt - 1)), (), rfl, ?_, ?_⟩, hS.F ht⟩) hS.2.2 d_Machine_pop_21
  · rfl
  · exact ⟨by rw [ht]; exact hP.sub [0, 1, 2, 3, 4, 5] rfl, hD.sub [0, 1, 2, 3, 4, 5] (by decide) rfl⟩
set_option maxHeartbeats 4000000 in
set_option maxRecDepth 100000 in
theorem c_Machine_emit (l : Launch) (D : va_G) (cI cZ : ClassId) (tN tG : Nat) (hz : Nat) (mc ky vy gy ly sy : Nat) (res stp pcn : Int32) (fk fv fa fl fs : Nat → Int32) (hgt ap : Int32) : Met l y_Machine_emit w_Machine_emit (rmk 2) (va_Pc [.ref mc] (MZ D cI cZ tN tG [(mc, .inr (3, [.int res, .int stp, .int pcn, .ref ky, .ref vy, .ref gy, .ref ly, .ref sy, .int hgt, .int ap])), (ky, .inl (cI, 20, .inl fk)), (vy, .inl (cI, 20, .inl fv)), (gy, .inl (cI, 3, .inl fa)), (ly, .inl (cI, 4, .inl fl)), (sy, .inl (cI, 8, .inl fs))] hz)) (va_Qi (fun (r : Int32) (u : MS) => (r, u) = m_emit (res, stp, pcn, fk, fv, fa, fl, fs, hgt, ap)) (fun u t => ME D (va_A [(mc, .inr (3, [.int res, .int stp, .int pcn, .ref ky, .ref vy, .ref gy, .ref ly, .ref sy, .int hgt, .int ap])), (ky, .inl (cI, 20, .inl fk)), (vy, .inl (cI, 20, .inl fv)), (gy, .inl (cI, 3, .inl fa)), (ly, .inl (cI, 4, .inl fl)), (sy, .inl (cI, 8, .inl fs))] hz) [(mc, .inr (3, [.int u.1, .int u.2.1, .int u.2.2.1, .ref ky, .ref vy, .ref gy, .ref ly, .ref sy, .int u.2.2.2.2.2.2.2.2.1, .int u.2.2.2.2.2.2.2.2.2])), (ky, .inl (cI, 20, .inl u.2.2.2.1)), (vy, .inl (cI, 20, .inl u.2.2.2.2.1)), (gy, .inl (cI, 3, .inl u.2.2.2.2.2.1)), (ly, .inl (cI, 4, .inl u.2.2.2.2.2.2.1)), (sy, .inl (cI, 8, .inl u.2.2.2.2.2.2.2.1))] t) (va_A [(mc, .inr (3, [.int res, .int stp, .int pcn, .ref ky, .ref vy, .ref gy, .ref ly, .ref sy, .int hgt, .int ap])), (ky, .inl (cI, 20, .inl fk)), (vy, .inl (cI, 20, .inl fv)), (gy, .inl (cI, 3, .inl fa)), (ly, .inl (cI, 4, .inl fl)), (sy, .inl (cI, 8, .inl fs))] hz)) 0 0 (va_A [(mc, .inr (3, [.int res, .int stp, .int pcn, .ref ky, .ref vy, .ref gy, .ref ly, .ref sy, .int hgt, .int ap])), (ky, .inl (cI, 20, .inl fk)), (vy, .inl (cI, 20, .inl fv)), (gy, .inl (cI, 3, .inl fa)), (ly, .inl (cI, 4, .inl fl)), (sy, .inl (cI, 8, .inl fs))] hz) := by
  refine Met.ofW (cc := b_Machine_emit) (maxL := 1) (ret := (some .int)) (by decide) rfl ?_
  intro p e s m args below meth c s₁ B hml hv
  obtain ⟨rfl, hsz, hP, hE, hD0, hZ⟩ := hv
  have hx := B.exec
  have hb := B.bytes
  have hr := B.returns
  have hts : ∀ w ∈ gW, w.before _ s = true := fun w h => atoms_spec (ws := w_Machine_emit) B.pre w (List.mem_cons_of_mem _ h)
  have hown : s.vm.findClass R_Machine = some m.cls := findClass_of_methodNamed B.named
  have hlocks := B.notSynchronized
  subst hsz
  have hD := hD0.self (sz := s.heap.size)
  have hA : ∀ q : Nat, s.heap.size ≤ q → va_A [(mc, .inr (3, [.int res, .int stp, .int pcn, .ref ky, .ref vy, .ref gy, .ref ly, .ref sy, .int hgt, .int ap])), (ky, .inl (cI, 20, .inl fk)), (vy, .inl (cI, 20, .inl fv)), (gy, .inl (cI, 3, .inl fa)), (ly, .inl (cI, 4, .inl fl)), (sy, .inl (cI, 8, .inl fs))] s.heap.size q := fun q h => Or.inr h
  generalize va_A [(mc, .inr (3, [.int res, .int stp, .int pcn, .ref ky, .ref vy, .ref gy, .ref ly, .ref sy, .int hgt, .int ap])), (ky, .inl (cI, 20, .inl fk)), (vy, .inl (cI, 20, .inl fv)), (gy, .inl (cI, 3, .inl fa)), (ly, .inl (cI, 4, .inl fl)), (sy, .inl (cI, 8, .inl fs))] s.heap.size = A at hD hA hZ ⊢
  have hS : va_S A s.heap s.heap [] := va_S.rf
  have hP : va_P D classes [(mc, .inr (3, [.int res, .int stp, .int pcn, .ref ky, .ref vy, .ref gy, .ref ly, .ref sy, .int hgt, .int ap])), (ky, .inl (cI, 20, .inl fk)), (vy, .inl (cI, 20, .inl fv)), (gy, .inl (cI, 3, .inl fa)), (ly, .inl (cI, 4, .inl fl)), (sy, .inl (cI, 8, .inl fs))] s.heap := hP
  have hD : va_D A [(mc, .inr (3, [.int res, .int stp, .int pcn, .ref ky, .ref vy, .ref gy, .ref ly, .ref sy, .int hgt, .int ap])), (ky, .inl (cI, 20, .inl fk)), (vy, .inl (cI, 20, .inl fv)), (gy, .inl (cI, 3, .inl fa)), (ly, .inl (cI, 4, .inl fl)), (sy, .inl (cI, 8, .inl fs))] := hD
  have hl := lv_entry ([.ref mc]) (n := 1) (Nat.le_of_ble_eq_true rfl)
  rw [lg_entry_eq]
  generalize (lg_sl ([.ref mc]) ++ List.replicate (1 - (lg_sl ([.ref mc])).length) Slot.unset).toArray = ls at hl ⊢
  have hl : lv_has ls 1 [(0, .ref mc)] := hl
  refine lv_aload_n hx hb d_Machine_emit_0 rfl (lv_at hl 0 rfl) ?_
  refine va_get (D := D) (ci := 3) (v := .int pcn) (C := R_Machine) (T := F_Machine) (N := 10) hx hb hts in_Machine hown hE.1 hP 0 rfl rfl 2 (by decide) (hts _ k_87) (fun _ h9 => h9) rfl d_Machine_emit_1 ?_
  refine lv_bipush (v := 20) hx hb d_Machine_emit_4 (by decide) ?_
  refine lv_icmp_lt (tgt := 11) hx hb d_Machine_emit_6 (by decide) (fun h1 => ?_) (fun h1 => ?_)
  · -- pcn < 20
    refine lv_aload_n hx hb d_Machine_emit_11 rfl (lv_at hl 0 rfl) ?_
    refine va_get (D := D) (ci := 3) (v := .ref vy) (C := R_Machine) (T := F_Machine) (N := 10) hx hb hts in_Machine hown hE.1 hP 0 rfl rfl 4 (by decide) (hts _ k_91) (fun _ h9 => h9) rfl d_Machine_emit_12 ?_
    refine lv_aload_n hx hb d_Machine_emit_15 rfl (lv_at hl 0 rfl) ?_
    refine va_get (D := D) (ci := 3) (v := .int pcn) (C := R_Machine) (T := F_Machine) (N := 10) hx hb hts in_Machine hown hE.1 hP 0 rfl rfl 2 (by decide) (hts _ k_87) (fun _ h9 => h9) rfl d_Machine_emit_16 ?_
    refine lv_aload_n hx hb d_Machine_emit_19 rfl (lv_at hl 0 rfl) ?_
    have hPc := hP.sub (ws' := [(mc, .inr (3, [.int res, .int stp, .int pcn, .ref ky, .ref vy, .ref gy, .ref ly, .ref sy, .int hgt, .int ap])), (ky, .inl (cI, 20, .inl fk)), (vy, .inl (cI, 20, .inl fv)), (gy, .inl (cI, 3, .inl fa)), (ly, .inl (cI, 4, .inl fl)), (sy, .inl (cI, 8, .inl fs))]) [0, 1, 2, 3, 4, 5] rfl
    have hDc := hD.sub (ws' := [(mc, .inr (3, [.int res, .int stp, .int pcn, .ref ky, .ref vy, .ref gy, .ref ly, .ref sy, .int hgt, .int ap])), (ky, .inl (cI, 20, .inl fk)), (vy, .inl (cI, 20, .inl fv)), (gy, .inl (cI, 3, .inl fa)), (ly, .inl (cI, 4, .inl fl)), (sy, .inl (cI, 8, .inl fs))]) [0, 1, 2, 3, 4, 5] (by decide) rfl
    have hFc := va_free (wc := [(mc, .inr (3, [.int res, .int stp, .int pcn, .ref ky, .ref vy, .ref gy, .ref ly, .ref sy, .int hgt, .int ap])), (ky, .inl (cI, 20, .inl fk)), (vy, .inl (cI, 20, .inl fv)), (gy, .inl (cI, 3, .inl fa)), (ly, .inl (cI, 4, .inl fl)), (sy, .inl (cI, 8, .inl fs))]) hD hS hA [0, 1, 2, 3, 4, 5] rfl
    refine va_calli (va_runV (As := []) (rest := [.int pcn, .ref vy]) ⟨hx, hb, hml, hown, hts⟩ (c_Machine_pop l D cI cZ tN tG s.heap.size mc ky vy gy ly sy res stp pcn fk fv fa fl fs hgt ap) (cwV 0 hts (gd4 k_270 k_272 k_7 k_21 k_273) rfl rfl rfl (by decide +kernel) ⟨Nat.le_of_ble_eq_true rfl, Nat.le_of_ble_eq_true rfl⟩) ⟨MZ_blind, va_recv (q0 := 0) (ci := 3) hE.1 hP rfl rfl, mz_pre hE hZ hS hPc hDc hFc⟩ rfl rfl hl.1 rfl (lv_room (Nat.le_of_ble_eq_true rfl)) d_Machine_emit_20 ⟨Nat.zero_le _, Nat.zero_le _⟩) hS (fun q _ h => hFc q h) hFc (fun r u t H1 locs ht hvm hw hB hz1 hk1 hS => ?_)
    obtain ⟨hP1, hD1⟩ := hB
    rw [ht] at hP1
    subst hw
    obtain ⟨hP, hD⟩ := va_join (wr := []) (w1 := [(mc, .inr (3, [.int res, .int stp, .int pcn, .ref ky, .ref vy, .ref gy, .ref ly, .ref sy, .int (hgt - 1), .int ap])), (ky, .inl (cI, 20, .inl fk)), (vy, .inl (cI, 20, .inl fv)), (gy, .inl (cI, 3, .inl fa)), (ly, .inl (cI, 4, .inl fl)), (sy, .inl (cI, 8, .inl fs))]) hP hD [0, 1, 2, 3, 4, 5] [] rfl rfl (by decide) (by decide) hk1 hFc hP1 hD1
    generalize H1 = H at hP hS ⊢
    have hP : va_P D classes [(mc, .inr (3, [.int res, .int stp, .int pcn, .ref ky, .ref vy, .ref gy, .ref ly, .ref sy, .int (hgt - 1), .int ap])), (ky, .inl (cI, 20, .inl fk)), (vy, .inl (cI, 20, .inl fv)), (gy, .inl (cI, 3, .inl fa)), (ly, .inl (cI, 4, .inl fl)), (sy, .inl (cI, 8, .inl fs))] H := hP
    have hD : va_D A [(mc, .inr (3, [.int res, .int stp, .int pcn, .ref ky, .ref vy, .ref gy, .ref ly, .ref sy, .int (hgt - 1), .int ap])), (ky, .inl (cI, 20, .inl fk)), (vy, .inl (cI, 20, .inl fv)), (gy, .inl (cI, 3, .inl fa)), (ly, .inl (cI, 4, .inl fl)), (sy, .inl (cI, 8, .inl fs))] := hD
    have hPc := hP.sub (ws' := [(vy, .inl (cI, 20, .inl fv))]) [2] rfl
    have hDc := hD.sub (ws' := [(vy, .inl (cI, 20, .inl fv))]) [2] (by decide) rfl
    have hFc := va_free (wc := [(vy, .inl (cI, 20, .inl fv))]) hD hS hA [2] rfl
    refine va_callv (va_runSN (As := [.ref vy, .int pcn, .int (rd fs 8 (hgt - 1))]) (rest := []) ⟨hx, hb, hml, hown, hts⟩ (c_SJ_write l D cI cZ tN tG H.size vy 20 fv pcn (rd fs 8 (hgt - 1)) (by decide)) ⟨va_cnB 3 hts (gd k_139) rfl rfl rfl (hE.2 _ nm_7) (hts _ k_18) (by decide +kernel) ⟨Nat.le_of_ble_eq_true rfl, Nat.le_of_ble_eq_true rfl⟩, hts _ k_138, trivial⟩ ⟨MZ_blind, mz_pre hE hZ hS hPc hDc hFc⟩ rfl rfl hl.1 rfl (lv_room (Nat.le_of_ble_eq_true rfl)) d_Machine_emit_23 ⟨Nat.zero_le _, Nat.zero_le _⟩) hS (fun q _ h => hFc q h) hFc (fun u t H1 locs ht hvm hw hB hz1 hk1 hS => ?_)
    obtain ⟨hP1, hD1⟩ := hB
    rw [ht] at hP1
    subst hw
    obtain ⟨hP, hD⟩ := va_join (wr := [(mc, .inr (3, [.int res, .int stp, .int pcn, .ref ky, .ref vy, .ref gy, .ref ly, .ref sy, .int (hgt - 1), .int ap])), (ky, .inl (cI, 20, .inl fk)), (gy, .inl (cI, 3, .inl fa)), (ly, .inl (cI, 4, .inl fl)), (sy, .inl (cI, 8, .inl fs))]) (w1 := [(vy, .inl (cI, 20, .inl (wr fv 20 pcn (rd fs 8 (hgt - 1)))))]) hP hD [2] [0, 1, 3, 4, 5] rfl rfl (by decide) (by decide) hk1 hFc hP1 hD1
    generalize H1 = H at hP hS ⊢
    have hP : va_P D classes [(mc, .inr (3, [.int res, .int stp, .int pcn, .ref ky, .ref vy, .ref gy, .ref ly, .ref sy, .int (hgt - 1), .int ap])), (ky, .inl (cI, 20, .inl fk)), (gy, .inl (cI, 3, .inl fa)), (ly, .inl (cI, 4, .inl fl)), (sy, .inl (cI, 8, .inl fs)), (vy, .inl (cI, 20, .inl (wr fv 20 pcn (rd fs 8 (hgt - 1)))))] H := hP
    have hD : va_D A [(mc, .inr (3, [.int res, .int stp, .int pcn, .ref ky, .ref vy, .ref gy, .ref ly, .ref sy, .int (hgt - 1), .int ap])), (ky, .inl (cI, 20, .inl fk)), (gy, .inl (cI, 3, .inl fa)), (ly, .inl (cI, 4, .inl fl)), (sy, .inl (cI, 8, .inl fs)), (vy, .inl (cI, 20, .inl (wr fv 20 pcn (rd fs 8 (hgt - 1)))))] := hD
    refine lv_aload_n hx hb d_Machine_emit_26 rfl (lv_at hl 0 rfl) ?_
    refine va_get (D := D) (ci := 3) (v := .ref ky) (C := R_Machine) (T := F_Machine) (N := 10) hx hb hts in_Machine hown hE.1 hP 0 rfl rfl 3 (by decide) (hts _ k_89) (fun _ h9 => h9) rfl d_Machine_emit_27 ?_
    refine lv_aload_n hx hb d_Machine_emit_30 rfl (lv_at hl 0 rfl) ?_
    refine va_get (D := D) (ci := 3) (v := .int pcn) (C := R_Machine) (T := F_Machine) (N := 10) hx hb hts in_Machine hown hE.1 hP 0 rfl rfl 2 (by decide) (hts _ k_87) (fun _ h9 => h9) rfl d_Machine_emit_31 ?_
    refine lv_aload_n hx hb d_Machine_emit_34 rfl (lv_at hl 0 rfl) ?_
    have hPc := hP.sub (ws' := [(mc, .inr (3, [.int res, .int stp, .int pcn, .ref ky, .ref vy, .ref gy, .ref ly, .ref sy, .int (hgt - 1), .int ap])), (ky, .inl (cI, 20, .inl fk)), (vy, .inl (cI, 20, .inl (wr fv 20 pcn (rd fs 8 (hgt - 1))))), (gy, .inl (cI, 3, .inl fa)), (ly, .inl (cI, 4, .inl fl)), (sy, .inl (cI, 8, .inl fs))]) [0, 1, 5, 2, 3, 4] rfl
    have hDc := hD.sub (ws' := [(mc, .inr (3, [.int res, .int stp, .int pcn, .ref ky, .ref vy, .ref gy, .ref ly, .ref sy, .int (hgt - 1), .int ap])), (ky, .inl (cI, 20, .inl fk)), (vy, .inl (cI, 20, .inl (wr fv 20 pcn (rd fs 8 (hgt - 1))))), (gy, .inl (cI, 3, .inl fa)), (ly, .inl (cI, 4, .inl fl)), (sy, .inl (cI, 8, .inl fs))]) [0, 1, 5, 2, 3, 4] (by decide) rfl
    have hFc := va_free (wc := [(mc, .inr (3, [.int res, .int stp, .int pcn, .ref ky, .ref vy, .ref gy, .ref ly, .ref sy, .int (hgt - 1), .int ap])), (ky, .inl (cI, 20, .inl fk)), (vy, .inl (cI, 20, .inl (wr fv 20 pcn (rd fs 8 (hgt - 1))))), (gy, .inl (cI, 3, .inl fa)), (ly, .inl (cI, 4, .inl fl)), (sy, .inl (cI, 8, .inl fs))]) hD hS hA [0, 1, 5, 2, 3, 4] rfl
    refine va_calli (va_runV (As := []) (rest := [.int pcn, .ref ky]) ⟨hx, hb, hml, hown, hts⟩ (c_Machine_pop l D cI cZ tN tG H.size mc ky vy gy ly sy res stp pcn fk (wr fv 20 pcn (rd fs 8 (hgt - 1))) fa fl fs (hgt - 1) ap) (cwV 0 hts (gd4 k_270 k_272 k_7 k_21 k_273) rfl rfl rfl (by decide +kernel) ⟨Nat.le_of_ble_eq_true rfl, Nat.le_of_ble_eq_true rfl⟩) ⟨MZ_blind, va_recv (q0 := 0) (ci := 3) hE.1 hP rfl rfl, mz_pre hE hZ hS hPc hDc hFc⟩ rfl rfl hl.1 rfl (lv_room (Nat.le_of_ble_eq_true rfl)) d_Machine_emit_35 ⟨Nat.zero_le _, Nat.zero_le _⟩) hS (fun q _ h => hFc q h) hFc (fun r u t H1 locs ht hvm hw hB hz1 hk1 hS => ?_)
    obtain ⟨hP1, hD1⟩ := hB
    rw [ht] at hP1
    subst hw
    obtain ⟨hP, hD⟩ := va_join (wr := []) (w1 := [(mc, .inr (3, [.int res, .int stp, .int pcn, .ref ky, .ref vy, .ref gy, .ref ly, .ref sy, .int ((hgt - 1) - 1), .int ap])), (ky, .inl (cI, 20, .inl fk)), (vy, .inl (cI, 20, .inl (wr fv 20 pcn (rd fs 8 (hgt - 1))))), (gy, .inl (cI, 3, .inl fa)), (ly, .inl (cI, 4, .inl fl)), (sy, .inl (cI, 8, .inl fs))]) hP hD [0, 1, 5, 2, 3, 4] [] rfl rfl (by decide) (by decide) hk1 hFc hP1 hD1
    generalize H1 = H at hP hS ⊢
    have hP : va_P D classes [(mc, .inr (3, [.int res, .int stp, .int pcn, .ref ky, .ref vy, .ref gy, .ref ly, .ref sy, .int ((hgt - 1) - 1), .int ap])), (ky, .inl (cI, 20, .inl fk)), (vy, .inl (cI, 20, .inl (wr fv 20 pcn (rd fs 8 (hgt - 1))))), (gy, .inl (cI, 3, .inl fa)), (ly, .inl (cI, 4, .inl fl)), (sy, .inl (cI, 8, .inl fs))] H := hP
    have hD : va_D A [(mc, .inr (3, [.int res, .int stp, .int pcn, .ref ky, .ref vy, .ref gy, .ref ly, .ref sy, .int ((hgt - 1) - 1), .int ap])), (ky, .inl (cI, 20, .inl fk)), (vy, .inl (cI, 20, .inl (wr fv 20 pcn (rd fs 8 (hgt - 1))))), (gy, .inl (cI, 3, .inl fa)), (ly, .inl (cI, 4, .inl fl)), (sy, .inl (cI, 8, .inl fs))] := hD
    have hPc := hP.sub (ws' := [(ky, .inl (cI, 20, .inl fk))]) [1] rfl
    have hDc := hD.sub (ws' := [(ky, .inl (cI, 20, .inl fk))]) [1] (by decide) rfl
    have hFc := va_free (wc := [(ky, .inl (cI, 20, .inl fk))]) hD hS hA [1] rfl
    refine va_callv (va_runSN (As := [.ref ky, .int pcn, .int (rd fs 8 ((hgt - 1) - 1))]) (rest := []) ⟨hx, hb, hml, hown, hts⟩ (c_SJ_write l D cI cZ tN tG H.size ky 20 fk pcn (rd fs 8 ((hgt - 1) - 1)) (by decide)) ⟨va_cnB 3 hts (gd k_139) rfl rfl rfl (hE.2 _ nm_7) (hts _ k_18) (by decide +kernel) ⟨Nat.le_of_ble_eq_true rfl, Nat.le_of_ble_eq_true rfl⟩, hts _ k_138, trivial⟩ ⟨MZ_blind, mz_pre hE hZ hS hPc hDc hFc⟩ rfl rfl hl.1 rfl (lv_room (Nat.le_of_ble_eq_true rfl)) d_Machine_emit_38 ⟨Nat.zero_le _, Nat.zero_le _⟩) hS (fun q _ h => hFc q h) hFc (fun u t H1 locs ht hvm hw hB hz1 hk1 hS => ?_)
    obtain ⟨hP1, hD1⟩ := hB
    rw [ht] at hP1
    subst hw
    obtain ⟨hP, hD⟩ := va_join (wr := [(mc, .inr (3, [.int res, .int stp, .int pcn, .ref ky, .ref vy, .ref gy, .ref ly, .ref sy, .int ((hgt - 1) - 1), .int ap])), (vy, .inl (cI, 20, .inl (wr fv 20 pcn (rd fs 8 (hgt - 1))))), (gy, .inl (cI, 3, .inl fa)), (ly, .inl (cI, 4, .inl fl)), (sy, .inl (cI, 8, .inl fs))]) (w1 := [(ky, .inl (cI, 20, .inl (wr fk 20 pcn (rd fs 8 ((hgt - 1) - 1)))))]) hP hD [1] [0, 2, 3, 4, 5] rfl rfl (by decide) (by decide) hk1 hFc hP1 hD1
    generalize H1 = H at hP hS ⊢
    have hP : va_P D classes [(mc, .inr (3, [.int res, .int stp, .int pcn, .ref ky, .ref vy, .ref gy, .ref ly, .ref sy, .int ((hgt - 1) - 1), .int ap])), (vy, .inl (cI, 20, .inl (wr fv 20 pcn (rd fs 8 (hgt - 1))))), (gy, .inl (cI, 3, .inl fa)), (ly, .inl (cI, 4, .inl fl)), (sy, .inl (cI, 8, .inl fs)), (ky, .inl (cI, 20, .inl (wr fk 20 pcn (rd fs 8 ((hgt - 1) - 1)))))] H := hP
    have hD : va_D A [(mc, .inr (3, [.int res, .int stp, .int pcn, .ref ky, .ref vy, .ref gy, .ref ly, .ref sy, .int ((hgt - 1) - 1), .int ap])), (vy, .inl (cI, 20, .inl (wr fv 20 pcn (rd fs 8 (hgt - 1))))), (gy, .inl (cI, 3, .inl fa)), (ly, .inl (cI, 4, .inl fl)), (sy, .inl (cI, 8, .inl fs)), (ky, .inl (cI, 20, .inl (wr fk 20 pcn (rd fs 8 ((hgt - 1) - 1)))))] := hD
    refine lv_aload_n hx hb d_Machine_emit_41 rfl (lv_at hl 0 rfl) ?_
    refine lv_dup hx hb d_Machine_emit_42 rfl ?_
    refine va_get (D := D) (ci := 3) (v := .int pcn) (C := R_Machine) (T := F_Machine) (N := 10) hx hb hts in_Machine hown hE.1 hP 0 rfl rfl 2 (by decide) (hts _ k_87) (fun _ h9 => h9) rfl d_Machine_emit_43 ?_
    refine lv_iconst (v := 1) hx hb d_Machine_emit_46 (by decide) ?_
    refine lv_iadd hx hb d_Machine_emit_47 ?_
    refine va_put (D := D) (ci := 3) (v := .int (pcn + 1)) (ty := .int) (C := R_Machine) (T := F_Machine) (N := 10) hx hb hts in_Machine t_Machine t_Machine_ok n_Machine hown hE.1 hP hD hS 0 rfl rfl 2 (by decide) (hts _ k_87) (fun _ h9 => h9) rfl (by decide +kernel) rfl rfl (Nat.le_of_ble_eq_true rfl) d_Machine_emit_48 (fun H locs hP hD hS => ?_)
    have hP : va_P D classes [(mc, .inr (3, [.int res, .int stp, .int (pcn + 1), .ref ky, .ref vy, .ref gy, .ref ly, .ref sy, .int ((hgt - 1) - 1), .int ap])), (vy, .inl (cI, 20, .inl (wr fv 20 pcn (rd fs 8 (hgt - 1))))), (gy, .inl (cI, 3, .inl fa)), (ly, .inl (cI, 4, .inl fl)), (sy, .inl (cI, 8, .inl fs)), (ky, .inl (cI, 20, .inl (wr fk 20 pcn (rd fs 8 ((hgt - 1) - 1)))))] H := hP
    have hD : va_D A [(mc, .inr (3, [.int res, .int stp, .int (pcn + 1), .ref ky, .ref vy, .ref gy, .ref ly, .ref sy, .int ((hgt - 1) - 1), .int ap])), (vy, .inl (cI, 20, .inl (wr fv 20 pcn (rd fs 8 (hgt - 1))))), (gy, .inl (cI, 3, .inl fa)), (ly, .inl (cI, 4, .inl fl)), (sy, .inl (cI, 8, .inl fs)), (ky, .inl (cI, 20, .inl (wr fk 20 pcn (rd fs 8 ((hgt - 1) - 1)))))] := hD
    refine lv_iconst (v := 3) hx hb d_Machine_emit_51 (by decide) ?_
    refine W.iret hx hb hr (fun t ht hW => ⟨⟨3, (res, stp, (pcn + 1), (wr fk 20 pcn (rd fs 8 ((hgt - 1) - 1))), (wr fv 20 pcn (rd fs 8 (hgt - 1))), fa, fl, fs, ((hgt - 1) - 1), ap), rfl, ?_, ?_⟩, hS.F ht⟩) hS.2.2 d_Machine_emit_52
    · first | (simp only [m_emit, h1, if_true, if_false, eq_self, not_true_eq_false, not_false_eq_true, ne_eq]; done) | (simp only [m_emit, h1, if_true, if_false, eq_self, not_true_eq_false, not_false_eq_true, ne_eq]; rfl) | (simp [m_emit, h1]; done)
    · exact ⟨by rw [ht]; exact hP.sub [0, 5, 1, 2, 3, 4] rfl, hD.sub [0, 5, 1, 2, 3, 4] (by decide) rfl⟩
  · -- ¬ pcn < 20
    refine lv_iconst (v := 2) hx hb d_Machine_emit_9 (by decide) ?_
    refine W.iret hx hb hr (fun t ht hW => ⟨⟨2, (res, stp, pcn, fk, fv, fa, fl, fs, hgt, ap), rfl, ?_, ?_⟩, hS.F ht⟩) hS.2.2 d_Machine_emit_10
    · first | (simp only [m_emit, h1, if_true, if_false, eq_self, not_true_eq_false, not_false_eq_true, ne_eq]; done) | (simp only [m_emit, h1, if_true, if_false, eq_self, not_true_eq_false, not_false_eq_true, ne_eq]; rfl) | (simp [m_emit, h1]; done)
    · exact ⟨by rw [ht]; exact hP.sub [0, 1, 2, 3, 4, 5] rfl, hD.sub [0, 1, 2, 3, 4, 5] (by decide) rfl⟩
set_option maxHeartbeats 4000000 in
set_option maxRecDepth 100000 in
theorem c_Machine_move (l : Launch) (D : va_G) (cI cZ : ClassId) (tN tG : Nat) (hz : Nat) (mc ky vy gy ly sy : Nat) (res stp pcn : Int32) (fk fv fa fl fs : Nat → Int32) (hgt ap : Int32) (op n : Int32) : Met l y_Machine_move w_Machine_move (rmk 2) (va_Pc [.ref mc, .int op, .int n] (MZ D cI cZ tN tG [(mc, .inr (3, [.int res, .int stp, .int pcn, .ref ky, .ref vy, .ref gy, .ref ly, .ref sy, .int hgt, .int ap])), (ky, .inl (cI, 20, .inl fk)), (vy, .inl (cI, 20, .inl fv)), (gy, .inl (cI, 3, .inl fa)), (ly, .inl (cI, 4, .inl fl)), (sy, .inl (cI, 8, .inl fs))] hz)) (va_Qv (fun u : MS => u = m_move op n (res, stp, pcn, fk, fv, fa, fl, fs, hgt, ap)) (fun u t => ME D (va_A [(mc, .inr (3, [.int res, .int stp, .int pcn, .ref ky, .ref vy, .ref gy, .ref ly, .ref sy, .int hgt, .int ap])), (ky, .inl (cI, 20, .inl fk)), (vy, .inl (cI, 20, .inl fv)), (gy, .inl (cI, 3, .inl fa)), (ly, .inl (cI, 4, .inl fl)), (sy, .inl (cI, 8, .inl fs))] hz) [(mc, .inr (3, [.int u.1, .int u.2.1, .int u.2.2.1, .ref ky, .ref vy, .ref gy, .ref ly, .ref sy, .int u.2.2.2.2.2.2.2.2.1, .int u.2.2.2.2.2.2.2.2.2])), (ky, .inl (cI, 20, .inl u.2.2.2.1)), (vy, .inl (cI, 20, .inl u.2.2.2.2.1)), (gy, .inl (cI, 3, .inl u.2.2.2.2.2.1)), (ly, .inl (cI, 4, .inl u.2.2.2.2.2.2.1)), (sy, .inl (cI, 8, .inl u.2.2.2.2.2.2.2.1))] t) (va_A [(mc, .inr (3, [.int res, .int stp, .int pcn, .ref ky, .ref vy, .ref gy, .ref ly, .ref sy, .int hgt, .int ap])), (ky, .inl (cI, 20, .inl fk)), (vy, .inl (cI, 20, .inl fv)), (gy, .inl (cI, 3, .inl fa)), (ly, .inl (cI, 4, .inl fl)), (sy, .inl (cI, 8, .inl fs))] hz)) 0 0 (va_A [(mc, .inr (3, [.int res, .int stp, .int pcn, .ref ky, .ref vy, .ref gy, .ref ly, .ref sy, .int hgt, .int ap])), (ky, .inl (cI, 20, .inl fk)), (vy, .inl (cI, 20, .inl fv)), (gy, .inl (cI, 3, .inl fa)), (ly, .inl (cI, 4, .inl fl)), (sy, .inl (cI, 8, .inl fs))] hz) := by
  refine Met.ofW (cc := b_Machine_move) (maxL := 8) (ret := none) (by decide) rfl ?_
  intro p e s m args below meth c s₁ B hml hv
  obtain ⟨rfl, hsz, hP, hE, hD0, hZ⟩ := hv
  have hx := B.exec
  have hb := B.bytes
  have hr := B.returns
  have hts : ∀ w ∈ gW, w.before _ s = true := fun w h => atoms_spec (ws := w_Machine_move) B.pre w (List.mem_cons_of_mem _ h)
  have hown : s.vm.findClass R_Machine = some m.cls := findClass_of_methodNamed B.named
  have hlocks := B.notSynchronized
  subst hsz
  have hD := hD0.self (sz := s.heap.size)
  have hA : ∀ q : Nat, s.heap.size ≤ q → va_A [(mc, .inr (3, [.int res, .int stp, .int pcn, .ref ky, .ref vy, .ref gy, .ref ly, .ref sy, .int hgt, .int ap])), (ky, .inl (cI, 20, .inl fk)), (vy, .inl (cI, 20, .inl fv)), (gy, .inl (cI, 3, .inl fa)), (ly, .inl (cI, 4, .inl fl)), (sy, .inl (cI, 8, .inl fs))] s.heap.size q := fun q h => Or.inr h
  generalize va_A [(mc, .inr (3, [.int res, .int stp, .int pcn, .ref ky, .ref vy, .ref gy, .ref ly, .ref sy, .int hgt, .int ap])), (ky, .inl (cI, 20, .inl fk)), (vy, .inl (cI, 20, .inl fv)), (gy, .inl (cI, 3, .inl fa)), (ly, .inl (cI, 4, .inl fl)), (sy, .inl (cI, 8, .inl fs))] s.heap.size = A at hD hA hZ ⊢
  have hS : va_S A s.heap s.heap [] := va_S.rf
  have hP : va_P D classes [(mc, .inr (3, [.int res, .int stp, .int pcn, .ref ky, .ref vy, .ref gy, .ref ly, .ref sy, .int hgt, .int ap])), (ky, .inl (cI, 20, .inl fk)), (vy, .inl (cI, 20, .inl fv)), (gy, .inl (cI, 3, .inl fa)), (ly, .inl (cI, 4, .inl fl)), (sy, .inl (cI, 8, .inl fs))] s.heap := hP
  have hD : va_D A [(mc, .inr (3, [.int res, .int stp, .int pcn, .ref ky, .ref vy, .ref gy, .ref ly, .ref sy, .int hgt, .int ap])), (ky, .inl (cI, 20, .inl fk)), (vy, .inl (cI, 20, .inl fv)), (gy, .inl (cI, 3, .inl fa)), (ly, .inl (cI, 4, .inl fl)), (sy, .inl (cI, 8, .inl fs))] := hD
  have hl := lv_entry ([.ref mc, .int op, .int n]) (n := 8) (Nat.le_of_ble_eq_true rfl)
  rw [lg_entry_eq]
  generalize (lg_sl ([.ref mc, .int op, .int n]) ++ List.replicate (8 - (lg_sl ([.ref mc, .int op, .int n])).length) Slot.unset).toArray = ls at hl ⊢
  have hl : lv_has ls 8 [(0, .ref mc), (1, .int op), (2, .int n)] := hl
  refine lv_iload_n hx hb d_Machine_move_0 rfl (lv_at hl 1 rfl) ?_
  rcases (by omega : (Int32.toInt op < 0 ∨ 6 < Int32.toInt op) ∨ Int32.toInt op = 0 ∨ Int32.toInt op = 1 ∨ Int32.toInt op = 2 ∨ Int32.toInt op = 3 ∨ Int32.toInt op = 4 ∨ Int32.toInt op = 5 ∨ Int32.toInt op = 6) with h1 | h1 | h1 | h1 | h1 | h1 | h1 | h1
  · -- default
    refine lv_tableOut (tgt := 150) hx hb d_Machine_move_1 h1 (by decide) ?_
    refine lv_aload_n hx hb d_Machine_move_150 rfl (lv_at hl 0 rfl) ?_
    have hPc := hP.sub (ws' := [(mc, .inr (3, [.int res, .int stp, .int pcn, .ref ky, .ref vy, .ref gy, .ref ly, .ref sy, .int hgt, .int ap])), (ky, .inl (cI, 20, .inl fk)), (vy, .inl (cI, 20, .inl fv)), (gy, .inl (cI, 3, .inl fa)), (ly, .inl (cI, 4, .inl fl)), (sy, .inl (cI, 8, .inl fs))]) [0, 1, 2, 3, 4, 5] rfl
    have hDc := hD.sub (ws' := [(mc, .inr (3, [.int res, .int stp, .int pcn, .ref ky, .ref vy, .ref gy, .ref ly, .ref sy, .int hgt, .int ap])), (ky, .inl (cI, 20, .inl fk)), (vy, .inl (cI, 20, .inl fv)), (gy, .inl (cI, 3, .inl fa)), (ly, .inl (cI, 4, .inl fl)), (sy, .inl (cI, 8, .inl fs))]) [0, 1, 2, 3, 4, 5] (by decide) rfl
    have hFc := va_free (wc := [(mc, .inr (3, [.int res, .int stp, .int pcn, .ref ky, .ref vy, .ref gy, .ref ly, .ref sy, .int hgt, .int ap])), (ky, .inl (cI, 20, .inl fk)), (vy, .inl (cI, 20, .inl fv)), (gy, .inl (cI, 3, .inl fa)), (ly, .inl (cI, 4, .inl fl)), (sy, .inl (cI, 8, .inl fs))]) hD hS hA [0, 1, 2, 3, 4, 5] rfl
    refine va_calli (va_runV (As := []) (rest := []) ⟨hx, hb, hml, hown, hts⟩ (c_Machine_pop l D cI cZ tN tG s.heap.size mc ky vy gy ly sy res stp pcn fk fv fa fl fs hgt ap) (cwV 0 hts (gd4 k_270 k_272 k_7 k_21 k_273) rfl rfl rfl (by decide +kernel) ⟨Nat.le_of_ble_eq_true rfl, Nat.le_of_ble_eq_true rfl⟩) ⟨MZ_blind, va_recv (q0 := 0) (ci := 3) hE.1 hP rfl rfl, mz_pre hE hZ hS hPc hDc hFc⟩ rfl rfl hl.1 rfl (lv_room (Nat.le_of_ble_eq_true rfl)) d_Machine_move_151 ⟨Nat.zero_le _, Nat.zero_le _⟩) hS (fun q _ h => hFc q h) hFc (fun r u t H1 locs ht hvm hw hB hz1 hk1 hS => ?_)
    obtain ⟨hP1, hD1⟩ := hB
    rw [ht] at hP1
    subst hw
    obtain ⟨hP, hD⟩ := va_join (wr := []) (w1 := [(mc, .inr (3, [.int res, .int stp, .int pcn, .ref ky, .ref vy, .ref gy, .ref ly, .ref sy, .int (hgt - 1), .int ap])), (ky, .inl (cI, 20, .inl fk)), (vy, .inl (cI, 20, .inl fv)), (gy, .inl (cI, 3, .inl fa)), (ly, .inl (cI, 4, .inl fl)), (sy, .inl (cI, 8, .inl fs))]) hP hD [0, 1, 2, 3, 4, 5] [] rfl rfl (by decide) (by decide) hk1 hFc hP1 hD1
    generalize H1 = H at hP hS ⊢
    have hP : va_P D classes [(mc, .inr (3, [.int res, .int stp, .int pcn, .ref ky, .ref vy, .ref gy, .ref ly, .ref sy, .int (hgt - 1), .int ap])), (ky, .inl (cI, 20, .inl fk)), (vy, .inl (cI, 20, .inl fv)), (gy, .inl (cI, 3, .inl fa)), (ly, .inl (cI, 4, .inl fl)), (sy, .inl (cI, 8, .inl fs))] H := hP
    have hD : va_D A [(mc, .inr (3, [.int res, .int stp, .int pcn, .ref ky, .ref vy, .ref gy, .ref ly, .ref sy, .int (hgt - 1), .int ap])), (ky, .inl (cI, 20, .inl fk)), (vy, .inl (cI, 20, .inl fv)), (gy, .inl (cI, 3, .inl fa)), (ly, .inl (cI, 4, .inl fl)), (sy, .inl (cI, 8, .inl fs))] := hD
    refine lv_istore hx hb d_Machine_move_154 hl (by decide) rfl (fun ls hl => ?_)
    have hl : lv_has ls 8 [(6, .int (rd fs 8 (hgt - 1))), (0, .ref mc), (1, .int op), (2, .int n)] := hl
    refine lv_aload_n hx hb d_Machine_move_156 rfl (lv_at hl 1 rfl) ?_
    have hPc := hP.sub (ws' := [(mc, .inr (3, [.int res, .int stp, .int pcn, .ref ky, .ref vy, .ref gy, .ref ly, .ref sy, .int (hgt - 1), .int ap])), (ky, .inl (cI, 20, .inl fk)), (vy, .inl (cI, 20, .inl fv)), (gy, .inl (cI, 3, .inl fa)), (ly, .inl (cI, 4, .inl fl)), (sy, .inl (cI, 8, .inl fs))]) [0, 1, 2, 3, 4, 5] rfl
    have hDc := hD.sub (ws' := [(mc, .inr (3, [.int res, .int stp, .int pcn, .ref ky, .ref vy, .ref gy, .ref ly, .ref sy, .int (hgt - 1), .int ap])), (ky, .inl (cI, 20, .inl fk)), (vy, .inl (cI, 20, .inl fv)), (gy, .inl (cI, 3, .inl fa)), (ly, .inl (cI, 4, .inl fl)), (sy, .inl (cI, 8, .inl fs))]) [0, 1, 2, 3, 4, 5] (by decide) rfl
    have hFc := va_free (wc := [(mc, .inr (3, [.int res, .int stp, .int pcn, .ref ky, .ref vy, .ref gy, .ref ly, .ref sy, .int (hgt - 1), .int ap])), (ky, .inl (cI, 20, .inl fk)), (vy, .inl (cI, 20, .inl fv)), (gy, .inl (cI, 3, .inl fa)), (ly, .inl (cI, 4, .inl fl)), (sy, .inl (cI, 8, .inl fs))]) hD hS hA [0, 1, 2, 3, 4, 5] rfl
    refine va_calli (va_runV (As := []) (rest := []) ⟨hx, hb, hml, hown, hts⟩ (c_Machine_pop l D cI cZ tN tG H.size mc ky vy gy ly sy res stp pcn fk fv fa fl fs (hgt - 1) ap) (cwV 0 hts (gd4 k_270 k_272 k_7 k_21 k_273) rfl rfl rfl (by decide +kernel) ⟨Nat.le_of_ble_eq_true rfl, Nat.le_of_ble_eq_true rfl⟩) ⟨MZ_blind, va_recv (q0 := 0) (ci := 3) hE.1 hP rfl rfl, mz_pre hE hZ hS hPc hDc hFc⟩ rfl rfl hl.1 rfl (lv_room (Nat.le_of_ble_eq_true rfl)) d_Machine_move_157 ⟨Nat.zero_le _, Nat.zero_le _⟩) hS (fun q _ h => hFc q h) hFc (fun r u t H1 locs ht hvm hw hB hz1 hk1 hS => ?_)
    obtain ⟨hP1, hD1⟩ := hB
    rw [ht] at hP1
    subst hw
    obtain ⟨hP, hD⟩ := va_join (wr := []) (w1 := [(mc, .inr (3, [.int res, .int stp, .int pcn, .ref ky, .ref vy, .ref gy, .ref ly, .ref sy, .int ((hgt - 1) - 1), .int ap])), (ky, .inl (cI, 20, .inl fk)), (vy, .inl (cI, 20, .inl fv)), (gy, .inl (cI, 3, .inl fa)), (ly, .inl (cI, 4, .inl fl)), (sy, .inl (cI, 8, .inl fs))]) hP hD [0, 1, 2, 3, 4, 5] [] rfl rfl (by decide) (by decide) hk1 hFc hP1 hD1
    generalize H1 = H at hP hS ⊢
    have hP : va_P D classes [(mc, .inr (3, [.int res, .int stp, .int pcn, .ref ky, .ref vy, .ref gy, .ref ly, .ref sy, .int ((hgt - 1) - 1), .int ap])), (ky, .inl (cI, 20, .inl fk)), (vy, .inl (cI, 20, .inl fv)), (gy, .inl (cI, 3, .inl fa)), (ly, .inl (cI, 4, .inl fl)), (sy, .inl (cI, 8, .inl fs))] H := hP
    have hD : va_D A [(mc, .inr (3, [.int res, .int stp, .int pcn, .ref ky, .ref vy, .ref gy, .ref ly, .ref sy, .int ((hgt - 1) - 1), .int ap])), (ky, .inl (cI, 20, .inl fk)), (vy, .inl (cI, 20, .inl fv)), (gy, .inl (cI, 3, .inl fa)), (ly, .inl (cI, 4, .inl fl)), (sy, .inl (cI, 8, .inl fs))] := hD
    refine lv_istore hx hb d_Machine_move_160 hl (by decide) rfl (fun ls hl => ?_)
    have hl : lv_has ls 8 [(7, .int (rd fs 8 ((hgt - 1) - 1))), (6, .int (rd fs 8 (hgt - 1))), (0, .ref mc), (1, .int op), (2, .int n)] := hl
    refine lv_aload_n hx hb d_Machine_move_162 rfl (lv_at hl 2 rfl) ?_
    refine lv_iload_n hx hb d_Machine_move_163 rfl (lv_at hl 3 rfl) ?_
    refine lv_iload hx hb d_Machine_move_164 (lv_at hl 0 rfl) ?_
    refine lv_iload hx hb d_Machine_move_166 (lv_at hl 1 rfl) ?_
    refine vp_callSi (va_Run.run (va_runS (As := [.int op, .int (rd fs 8 ((hgt - 1) - 1)), .int (rd fs 8 (hgt - 1))]) (rest := [.ref mc]) ⟨hx, hb, hml, hown, hts⟩ (c_Machine_combine l op (rd fs 8 ((hgt - 1) - 1)) (rd fs 8 (hgt - 1))) (cwS 3 hts (gd3 k_287 k_288 k_21 k_289) rfl rfl rfl (by decide +kernel) ⟨Nat.le_of_ble_eq_true rfl, Nat.le_of_ble_eq_true rfl⟩) ⟨fun _ _ _ _ q => q, fun _ _ _ => ⟨rfl, trivial⟩⟩ rfl rfl hl.1 rfl (lv_room (Nat.le_of_ble_eq_true rfl)) d_Machine_move_168 ⟨Nat.zero_le _, Nat.zero_le _⟩)) (fun r hq => ?_)
    subst hq
    have hPc := hP.sub (ws' := [(mc, .inr (3, [.int res, .int stp, .int pcn, .ref ky, .ref vy, .ref gy, .ref ly, .ref sy, .int ((hgt - 1) - 1), .int ap])), (ky, .inl (cI, 20, .inl fk)), (vy, .inl (cI, 20, .inl fv)), (gy, .inl (cI, 3, .inl fa)), (ly, .inl (cI, 4, .inl fl)), (sy, .inl (cI, 8, .inl fs))]) [0, 1, 2, 3, 4, 5] rfl
    have hDc := hD.sub (ws' := [(mc, .inr (3, [.int res, .int stp, .int pcn, .ref ky, .ref vy, .ref gy, .ref ly, .ref sy, .int ((hgt - 1) - 1), .int ap])), (ky, .inl (cI, 20, .inl fk)), (vy, .inl (cI, 20, .inl fv)), (gy, .inl (cI, 3, .inl fa)), (ly, .inl (cI, 4, .inl fl)), (sy, .inl (cI, 8, .inl fs))]) [0, 1, 2, 3, 4, 5] (by decide) rfl
    have hFc := va_free (wc := [(mc, .inr (3, [.int res, .int stp, .int pcn, .ref ky, .ref vy, .ref gy, .ref ly, .ref sy, .int ((hgt - 1) - 1), .int ap])), (ky, .inl (cI, 20, .inl fk)), (vy, .inl (cI, 20, .inl fv)), (gy, .inl (cI, 3, .inl fa)), (ly, .inl (cI, 4, .inl fl)), (sy, .inl (cI, 8, .inl fs))]) hD hS hA [0, 1, 2, 3, 4, 5] rfl
    refine va_callv (va_runV (As := [.int (m_comb op (rd fs 8 ((hgt - 1) - 1)) (rd fs 8 (hgt - 1)))]) (rest := []) ⟨hx, hb, hml, hown, hts⟩ (c_Machine_push l D cI cZ tN tG H.size mc ky vy gy ly sy res stp pcn fk fv fa fl fs ((hgt - 1) - 1) ap (m_comb op (rd fs 8 ((hgt - 1) - 1)) (rd fs 8 (hgt - 1)))) (cwV 1 hts (gd4 k_283 k_285 k_10 k_21 k_286) rfl rfl rfl (by decide +kernel) ⟨Nat.le_of_ble_eq_true rfl, Nat.le_of_ble_eq_true rfl⟩) ⟨MZ_blind, va_recv (q0 := 0) (ci := 3) hE.1 hP rfl rfl, mz_pre hE hZ hS hPc hDc hFc⟩ rfl rfl hl.1 rfl (lv_room (Nat.le_of_ble_eq_true rfl)) d_Machine_move_171 ⟨Nat.zero_le _, Nat.zero_le _⟩) hS (fun q _ h => hFc q h) hFc (fun u t H1 locs ht hvm hw hB hz1 hk1 hS => ?_)
    obtain ⟨hP1, hD1⟩ := hB
    rw [ht] at hP1
    obtain ⟨hP, hD⟩ := va_join (wr := []) (w1 := [(mc, .inr (3, [.int res, .int stp, .int pcn, .ref ky, .ref vy, .ref gy, .ref ly, .ref sy, .int (((hgt - 1) - 1) + 1), .int ap])), (ky, .inl (cI, 20, .inl fk)), (vy, .inl (cI, 20, .inl fv)), (gy, .inl (cI, 3, .inl fa)), (ly, .inl (cI, 4, .inl fl)), (sy, .inl (cI, 8, .inl (wr fs 8 ((hgt - 1) - 1) (m_comb op (rd fs 8 ((hgt - 1) - 1)) (rd fs 8 (hgt - 1))))))]) hP hD [0, 1, 2, 3, 4, 5] [] rfl rfl (by decide) (by decide) hk1 hFc hP1 hD1
    generalize H1 = H at hP hS ⊢
    have hP : va_P D classes [(mc, .inr (3, [.int res, .int stp, .int pcn, .ref ky, .ref vy, .ref gy, .ref ly, .ref sy, .int (((hgt - 1) - 1) + 1), .int ap])), (ky, .inl (cI, 20, .inl fk)), (vy, .inl (cI, 20, .inl fv)), (gy, .inl (cI, 3, .inl fa)), (ly, .inl (cI, 4, .inl fl)), (sy, .inl (cI, 8, .inl (wr fs 8 ((hgt - 1) - 1) (m_comb op (rd fs 8 ((hgt - 1) - 1)) (rd fs 8 (hgt - 1))))))] H := hP
    have hD : va_D A [(mc, .inr (3, [.int res, .int stp, .int pcn, .ref ky, .ref vy, .ref gy, .ref ly, .ref sy, .int (((hgt - 1) - 1) + 1), .int ap])), (ky, .inl (cI, 20, .inl fk)), (vy, .inl (cI, 20, .inl fv)), (gy, .inl (cI, 3, .inl fa)), (ly, .inl (cI, 4, .inl fl)), (sy, .inl (cI, 8, .inl (wr fs 8 ((hgt - 1) - 1) (m_comb op (rd fs 8 ((hgt - 1) - 1)) (rd fs 8 (hgt - 1))))))] := hD
    refine W.vret hx hb hr (fun t ht hW => ⟨⟨(res, stp, pcn, fk, fv, fa, fl, (wr fs 8 ((hgt - 1) - 1) (m_comb op (rd fs 8 ((hgt - 1) - 1)) (rd fs 8 (hgt - 1)))), (((hgt - 1) - 1) + 1), ap), rfl, ?_, ?_⟩, hS.F ht⟩) hS.2.2 d_Machine_move_174
    · (have g0 := sw_ne (k := 0) h1 (by decide); have g1 := sw_ne (k := 1) h1 (by decide); have g2 := sw_ne (k := 2) h1 (by decide); have g3 := sw_ne (k := 3) h1 (by decide); have g4 := sw_ne (k := 4) h1 (by decide); have g5 := sw_ne (k := 5) h1 (by decide); have g6 := sw_ne (k := 6) h1 (by decide); simp only [m_move, g0, g1, g2, g3, g4, g5, g6, if_true, if_false, eq_self, not_true_eq_false, not_false_eq_true, ne_eq])
    · exact ⟨by rw [ht]; exact hP.sub [0, 1, 2, 3, 4, 5] rfl, hD.sub [0, 1, 2, 3, 4, 5] (by decide) rfl⟩
  · -- case 0
    have h1 : op = 0 := Int32.toInt_inj.mp (by rw [h1]; decide)
    subst h1
    refine lv_tableIn (tgt := 44) (off := 43) hx hb d_Machine_move_1 (by decide) (by decide) (by decide +kernel) (by decide) ?_
    refine lv_aload_n hx hb d_Machine_move_44 rfl (lv_at hl 0 rfl) ?_
    refine lv_iload_n hx hb d_Machine_move_45 rfl (lv_at hl 2 rfl) ?_
    have hPc := hP.sub (ws' := [(mc, .inr (3, [.int res, .int stp, .int pcn, .ref ky, .ref vy, .ref gy, .ref ly, .ref sy, .int hgt, .int ap])), (ky, .inl (cI, 20, .inl fk)), (vy, .inl (cI, 20, .inl fv)), (gy, .inl (cI, 3, .inl fa)), (ly, .inl (cI, 4, .inl fl)), (sy, .inl (cI, 8, .inl fs))]) [0, 1, 2, 3, 4, 5] rfl
    have hDc := hD.sub (ws' := [(mc, .inr (3, [.int res, .int stp, .int pcn, .ref ky, .ref vy, .ref gy, .ref ly, .ref sy, .int hgt, .int ap])), (ky, .inl (cI, 20, .inl fk)), (vy, .inl (cI, 20, .inl fv)), (gy, .inl (cI, 3, .inl fa)), (ly, .inl (cI, 4, .inl fl)), (sy, .inl (cI, 8, .inl fs))]) [0, 1, 2, 3, 4, 5] (by decide) rfl
    have hFc := va_free (wc := [(mc, .inr (3, [.int res, .int stp, .int pcn, .ref ky, .ref vy, .ref gy, .ref ly, .ref sy, .int hgt, .int ap])), (ky, .inl (cI, 20, .inl fk)), (vy, .inl (cI, 20, .inl fv)), (gy, .inl (cI, 3, .inl fa)), (ly, .inl (cI, 4, .inl fl)), (sy, .inl (cI, 8, .inl fs))]) hD hS hA [0, 1, 2, 3, 4, 5] rfl
    refine va_callv (va_runV (As := [.int n]) (rest := []) ⟨hx, hb, hml, hown, hts⟩ (c_Machine_push l D cI cZ tN tG s.heap.size mc ky vy gy ly sy res stp pcn fk fv fa fl fs hgt ap n) (cwV 1 hts (gd4 k_283 k_285 k_10 k_21 k_286) rfl rfl rfl (by decide +kernel) ⟨Nat.le_of_ble_eq_true rfl, Nat.le_of_ble_eq_true rfl⟩) ⟨MZ_blind, va_recv (q0 := 0) (ci := 3) hE.1 hP rfl rfl, mz_pre hE hZ hS hPc hDc hFc⟩ rfl rfl hl.1 rfl (lv_room (Nat.le_of_ble_eq_true rfl)) d_Machine_move_46 ⟨Nat.zero_le _, Nat.zero_le _⟩) hS (fun q _ h => hFc q h) hFc (fun u t H1 locs ht hvm hw hB hz1 hk1 hS => ?_)
    obtain ⟨hP1, hD1⟩ := hB
    rw [ht] at hP1
    obtain ⟨hP, hD⟩ := va_join (wr := []) (w1 := [(mc, .inr (3, [.int res, .int stp, .int pcn, .ref ky, .ref vy, .ref gy, .ref ly, .ref sy, .int (hgt + 1), .int ap])), (ky, .inl (cI, 20, .inl fk)), (vy, .inl (cI, 20, .inl fv)), (gy, .inl (cI, 3, .inl fa)), (ly, .inl (cI, 4, .inl fl)), (sy, .inl (cI, 8, .inl (wr fs 8 hgt n)))]) hP hD [0, 1, 2, 3, 4, 5] [] rfl rfl (by decide) (by decide) hk1 hFc hP1 hD1
    generalize H1 = H at hP hS ⊢
    have hP : va_P D classes [(mc, .inr (3, [.int res, .int stp, .int pcn, .ref ky, .ref vy, .ref gy, .ref ly, .ref sy, .int (hgt + 1), .int ap])), (ky, .inl (cI, 20, .inl fk)), (vy, .inl (cI, 20, .inl fv)), (gy, .inl (cI, 3, .inl fa)), (ly, .inl (cI, 4, .inl fl)), (sy, .inl (cI, 8, .inl (wr fs 8 hgt n)))] H := hP
    have hD : va_D A [(mc, .inr (3, [.int res, .int stp, .int pcn, .ref ky, .ref vy, .ref gy, .ref ly, .ref sy, .int (hgt + 1), .int ap])), (ky, .inl (cI, 20, .inl fk)), (vy, .inl (cI, 20, .inl fv)), (gy, .inl (cI, 3, .inl fa)), (ly, .inl (cI, 4, .inl fl)), (sy, .inl (cI, 8, .inl (wr fs 8 hgt n)))] := hD
    refine lv_goto (tgt := 174) hx hb d_Machine_move_49 (by decide) ?_
    refine W.vret hx hb hr (fun t ht hW => ⟨⟨(res, stp, pcn, fk, fv, fa, fl, (wr fs 8 hgt n), (hgt + 1), ap), rfl, ?_, ?_⟩, hS.F ht⟩) hS.2.2 d_Machine_move_174
    · rfl
    · exact ⟨by rw [ht]; exact hP.sub [0, 1, 2, 3, 4, 5] rfl, hD.sub [0, 1, 2, 3, 4, 5] (by decide) rfl⟩
  · -- case 1
    have h1 : op = 1 := Int32.toInt_inj.mp (by rw [h1]; decide)
    subst h1
    refine lv_tableIn (tgt := 52) (off := 51) hx hb d_Machine_move_1 (by decide) (by decide) (by decide +kernel) (by decide) ?_
    refine lv_aload_n hx hb d_Machine_move_52 rfl (lv_at hl 0 rfl) ?_
    refine lv_aload_n hx hb d_Machine_move_53 rfl (lv_at hl 0 rfl) ?_
    refine va_get (D := D) (ci := 3) (v := .ref gy) (C := R_Machine) (T := F_Machine) (N := 10) hx hb hts in_Machine hown hE.1 hP 0 rfl rfl 5 (by decide) (hts _ k_93) (fun _ h9 => h9) rfl d_Machine_move_54 ?_
    refine lv_iload_n hx hb d_Machine_move_57 rfl (lv_at hl 2 rfl) ?_
    refine vp_callSi (va_Run.run (va_runSN (As := [.ref gy, .int n]) (rest := [.ref mc]) ⟨hx, hb, hml, hown, hts⟩ (c_SJ_read l gy 3 fa n (by decide)) ⟨va_cnB 2 hts (gd k_177) rfl rfl rfl (hE.2 _ nm_8) (hts _ k_18) (by decide +kernel) ⟨Nat.le_of_ble_eq_true rfl, Nat.le_of_ble_eq_true rfl⟩, hts _ k_176, trivial⟩ (rp_pre hE.1 hP 3 0 rfl rfl) rfl rfl hl.1 rfl (lv_room (Nat.le_of_ble_eq_true rfl)) d_Machine_move_58 ⟨Nat.zero_le _, Nat.zero_le _⟩)) (fun r hq => ?_)
    subst hq
    have hPc := hP.sub (ws' := [(mc, .inr (3, [.int res, .int stp, .int pcn, .ref ky, .ref vy, .ref gy, .ref ly, .ref sy, .int hgt, .int ap])), (ky, .inl (cI, 20, .inl fk)), (vy, .inl (cI, 20, .inl fv)), (gy, .inl (cI, 3, .inl fa)), (ly, .inl (cI, 4, .inl fl)), (sy, .inl (cI, 8, .inl fs))]) [0, 1, 2, 3, 4, 5] rfl
    have hDc := hD.sub (ws' := [(mc, .inr (3, [.int res, .int stp, .int pcn, .ref ky, .ref vy, .ref gy, .ref ly, .ref sy, .int hgt, .int ap])), (ky, .inl (cI, 20, .inl fk)), (vy, .inl (cI, 20, .inl fv)), (gy, .inl (cI, 3, .inl fa)), (ly, .inl (cI, 4, .inl fl)), (sy, .inl (cI, 8, .inl fs))]) [0, 1, 2, 3, 4, 5] (by decide) rfl
    have hFc := va_free (wc := [(mc, .inr (3, [.int res, .int stp, .int pcn, .ref ky, .ref vy, .ref gy, .ref ly, .ref sy, .int hgt, .int ap])), (ky, .inl (cI, 20, .inl fk)), (vy, .inl (cI, 20, .inl fv)), (gy, .inl (cI, 3, .inl fa)), (ly, .inl (cI, 4, .inl fl)), (sy, .inl (cI, 8, .inl fs))]) hD hS hA [0, 1, 2, 3, 4, 5] rfl
    refine va_callv (va_runV (As := [.int (rd fa 3 n)]) (rest := []) ⟨hx, hb, hml, hown, hts⟩ (c_Machine_push l D cI cZ tN tG s.heap.size mc ky vy gy ly sy res stp pcn fk fv fa fl fs hgt ap (rd fa 3 n)) (cwV 1 hts (gd4 k_283 k_285 k_10 k_21 k_286) rfl rfl rfl (by decide +kernel) ⟨Nat.le_of_ble_eq_true rfl, Nat.le_of_ble_eq_true rfl⟩) ⟨MZ_blind, va_recv (q0 := 0) (ci := 3) hE.1 hP rfl rfl, mz_pre hE hZ hS hPc hDc hFc⟩ rfl rfl hl.1 rfl (lv_room (Nat.le_of_ble_eq_true rfl)) d_Machine_move_61 ⟨Nat.zero_le _, Nat.zero_le _⟩) hS (fun q _ h => hFc q h) hFc (fun u t H1 locs ht hvm hw hB hz1 hk1 hS => ?_)
    obtain ⟨hP1, hD1⟩ := hB
    rw [ht] at hP1
    obtain ⟨hP, hD⟩ := va_join (wr := []) (w1 := [(mc, .inr (3, [.int res, .int stp, .int pcn, .ref ky, .ref vy, .ref gy, .ref ly, .ref sy, .int (hgt + 1), .int ap])), (ky, .inl (cI, 20, .inl fk)), (vy, .inl (cI, 20, .inl fv)), (gy, .inl (cI, 3, .inl fa)), (ly, .inl (cI, 4, .inl fl)), (sy, .inl (cI, 8, .inl (wr fs 8 hgt (rd fa 3 n))))]) hP hD [0, 1, 2, 3, 4, 5] [] rfl rfl (by decide) (by decide) hk1 hFc hP1 hD1
    generalize H1 = H at hP hS ⊢
    have hP : va_P D classes [(mc, .inr (3, [.int res, .int stp, .int pcn, .ref ky, .ref vy, .ref gy, .ref ly, .ref sy, .int (hgt + 1), .int ap])), (ky, .inl (cI, 20, .inl fk)), (vy, .inl (cI, 20, .inl fv)), (gy, .inl (cI, 3, .inl fa)), (ly, .inl (cI, 4, .inl fl)), (sy, .inl (cI, 8, .inl (wr fs 8 hgt (rd fa 3 n))))] H := hP
    have hD : va_D A [(mc, .inr (3, [.int res, .int stp, .int pcn, .ref ky, .ref vy, .ref gy, .ref ly, .ref sy, .int (hgt + 1), .int ap])), (ky, .inl (cI, 20, .inl fk)), (vy, .inl (cI, 20, .inl fv)), (gy, .inl (cI, 3, .inl fa)), (ly, .inl (cI, 4, .inl fl)), (sy, .inl (cI, 8, .inl (wr fs 8 hgt (rd fa 3 n))))] := hD
    refine lv_goto (tgt := 174) hx hb d_Machine_move_64 (by decide) ?_
    refine W.vret hx hb hr (fun t ht hW => ⟨⟨(res, stp, pcn, fk, fv, fa, fl, (wr fs 8 hgt (rd fa 3 n)), (hgt + 1), ap), rfl, ?_, ?_⟩, hS.F ht⟩) hS.2.2 d_Machine_move_174
    · rfl
    · exact ⟨by rw [ht]; exact hP.sub [0, 1, 2, 3, 4, 5] rfl, hD.sub [0, 1, 2, 3, 4, 5] (by decide) rfl⟩
  · -- case 2
    have h1 : op = 2 := Int32.toInt_inj.mp (by rw [h1]; decide)
    subst h1
    refine lv_tableIn (tgt := 67) (off := 66) hx hb d_Machine_move_1 (by decide) (by decide) (by decide +kernel) (by decide) ?_
    refine lv_aload_n hx hb d_Machine_move_67 rfl (lv_at hl 0 rfl) ?_
    refine lv_aload_n hx hb d_Machine_move_68 rfl (lv_at hl 0 rfl) ?_
    refine va_get (D := D) (ci := 3) (v := .ref ly) (C := R_Machine) (T := F_Machine) (N := 10) hx hb hts in_Machine hown hE.1 hP 0 rfl rfl 6 (by decide) (hts _ k_94) (fun _ h9 => h9) rfl d_Machine_move_69 ?_
    refine lv_iload_n hx hb d_Machine_move_72 rfl (lv_at hl 2 rfl) ?_
    refine vp_callSi (va_Run.run (va_runSN (As := [.ref ly, .int n]) (rest := [.ref mc]) ⟨hx, hb, hml, hown, hts⟩ (c_SJ_read l ly 4 fl n (by decide)) ⟨va_cnB 2 hts (gd k_177) rfl rfl rfl (hE.2 _ nm_8) (hts _ k_18) (by decide +kernel) ⟨Nat.le_of_ble_eq_true rfl, Nat.le_of_ble_eq_true rfl⟩, hts _ k_176, trivial⟩ (rp_pre hE.1 hP 4 0 rfl rfl) rfl rfl hl.1 rfl (lv_room (Nat.le_of_ble_eq_true rfl)) d_Machine_move_73 ⟨Nat.zero_le _, Nat.zero_le _⟩)) (fun r hq => ?_)
    subst hq
    have hPc := hP.sub (ws' := [(mc, .inr (3, [.int res, .int stp, .int pcn, .ref ky, .ref vy, .ref gy, .ref ly, .ref sy, .int hgt, .int ap])), (ky, .inl (cI, 20, .inl fk)), (vy, .inl (cI, 20, .inl fv)), (gy, .inl (cI, 3, .inl fa)), (ly, .inl (cI, 4, .inl fl)), (sy, .inl (cI, 8, .inl fs))]) [0, 1, 2, 3, 4, 5] rfl
    have hDc := hD.sub (ws' := [(mc, .inr (3, [.int res, .int stp, .int pcn, .ref ky, .ref vy, .ref gy, .ref ly, .ref sy, .int hgt, .int ap])), (ky, .inl (cI, 20, .inl fk)), (vy, .inl (cI, 20, .inl fv)), (gy, .inl (cI, 3, .inl fa)), (ly, .inl (cI, 4, .inl fl)), (sy, .inl (cI, 8, .inl fs))]) [0, 1, 2, 3, 4, 5] (by decide) rfl
    have hFc := va_free (wc := [(mc, .inr (3, [.int res, .int stp, .int pcn, .ref ky, .ref vy, .ref gy, .ref ly, .ref sy, .int hgt, .int ap])), (ky, .inl (cI, 20, .inl fk)), (vy, .inl (cI, 20, .inl fv)), (gy, .inl (cI, 3, .inl fa)), (ly, .inl (cI, 4, .inl fl)), (sy, .inl (cI, 8, .inl fs))]) hD hS hA [0, 1, 2, 3, 4, 5] rfl
    refine va_callv (va_runV (As := [.int (rd fl 4 n)]) (rest := []) ⟨hx, hb, hml, hown, hts⟩ (c_Machine_push l D cI cZ tN tG s.heap.size mc ky vy gy ly sy res stp pcn fk fv fa fl fs hgt ap (rd fl 4 n)) (cwV 1 hts (gd4 k_283 k_285 k_10 k_21 k_286) rfl rfl rfl (by decide +kernel) ⟨Nat.le_of_ble_eq_true rfl, Nat.le_of_ble_eq_true rfl⟩) ⟨MZ_blind, va_recv (q0 := 0) (ci := 3) hE.1 hP rfl rfl, mz_pre hE hZ hS hPc hDc hFc⟩ rfl rfl hl.1 rfl (lv_room (Nat.le_of_ble_eq_true rfl)) d_Machine_move_76 ⟨Nat.zero_le _, Nat.zero_le _⟩) hS (fun q _ h => hFc q h) hFc (fun u t H1 locs ht hvm hw hB hz1 hk1 hS => ?_)
    obtain ⟨hP1, hD1⟩ := hB
    rw [ht] at hP1
    obtain ⟨hP, hD⟩ := va_join (wr := []) (w1 := [(mc, .inr (3, [.int res, .int stp, .int pcn, .ref ky, .ref vy, .ref gy, .ref ly, .ref sy, .int (hgt + 1), .int ap])), (ky, .inl (cI, 20, .inl fk)), (vy, .inl (cI, 20, .inl fv)), (gy, .inl (cI, 3, .inl fa)), (ly, .inl (cI, 4, .inl fl)), (sy, .inl (cI, 8, .inl (wr fs 8 hgt (rd fl 4 n))))]) hP hD [0, 1, 2, 3, 4, 5] [] rfl rfl (by decide) (by decide) hk1 hFc hP1 hD1
    generalize H1 = H at hP hS ⊢
    have hP : va_P D classes [(mc, .inr (3, [.int res, .int stp, .int pcn, .ref ky, .ref vy, .ref gy, .ref ly, .ref sy, .int (hgt + 1), .int ap])), (ky, .inl (cI, 20, .inl fk)), (vy, .inl (cI, 20, .inl fv)), (gy, .inl (cI, 3, .inl fa)), (ly, .inl (cI, 4, .inl fl)), (sy, .inl (cI, 8, .inl (wr fs 8 hgt (rd fl 4 n))))] H := hP
    have hD : va_D A [(mc, .inr (3, [.int res, .int stp, .int pcn, .ref ky, .ref vy, .ref gy, .ref ly, .ref sy, .int (hgt + 1), .int ap])), (ky, .inl (cI, 20, .inl fk)), (vy, .inl (cI, 20, .inl fv)), (gy, .inl (cI, 3, .inl fa)), (ly, .inl (cI, 4, .inl fl)), (sy, .inl (cI, 8, .inl (wr fs 8 hgt (rd fl 4 n))))] := hD
    refine lv_goto (tgt := 174) hx hb d_Machine_move_79 (by decide) ?_
    refine W.vret hx hb hr (fun t ht hW => ⟨⟨(res, stp, pcn, fk, fv, fa, fl, (wr fs 8 hgt (rd fl 4 n)), (hgt + 1), ap), rfl, ?_, ?_⟩, hS.F ht⟩) hS.2.2 d_Machine_move_174
    · rfl
    · exact ⟨by rw [ht]; exact hP.sub [0, 1, 2, 3, 4, 5] rfl, hD.sub [0, 1, 2, 3, 4, 5] (by decide) rfl⟩
  · -- case 3
    have h1 : op = 3 := Int32.toInt_inj.mp (by rw [h1]; decide)
    subst h1
    refine lv_tableIn (tgt := 82) (off := 81) hx hb d_Machine_move_1 (by decide) (by decide) (by decide +kernel) (by decide) ?_
    refine lv_aload_n hx hb d_Machine_move_82 rfl (lv_at hl 0 rfl) ?_
    refine va_get (D := D) (ci := 3) (v := .ref ly) (C := R_Machine) (T := F_Machine) (N := 10) hx hb hts in_Machine hown hE.1 hP 0 rfl rfl 6 (by decide) (hts _ k_94) (fun _ h9 => h9) rfl d_Machine_move_83 ?_
    refine lv_iload_n hx hb d_Machine_move_86 rfl (lv_at hl 2 rfl) ?_
    refine lv_aload_n hx hb d_Machine_move_87 rfl (lv_at hl 0 rfl) ?_
    have hPc := hP.sub (ws' := [(mc, .inr (3, [.int res, .int stp, .int pcn, .ref ky, .ref vy, .ref gy, .ref ly, .ref sy, .int hgt, .int ap])), (ky, .inl (cI, 20, .inl fk)), (vy, .inl (cI, 20, .inl fv)), (gy, .inl (cI, 3, .inl fa)), (ly, .inl (cI, 4, .inl fl)), (sy, .inl (cI, 8, .inl fs))]) [0, 1, 2, 3, 4, 5] rfl
    have hDc := hD.sub (ws' := [(mc, .inr (3, [.int res, .int stp, .int pcn, .ref ky, .ref vy, .ref gy, .ref ly, .ref sy, .int hgt, .int ap])), (ky, .inl (cI, 20, .inl fk)), (vy, .inl (cI, 20, .inl fv)), (gy, .inl (cI, 3, .inl fa)), (ly, .inl (cI, 4, .inl fl)), (sy, .inl (cI, 8, .inl fs))]) [0, 1, 2, 3, 4, 5] (by decide) rfl
    have hFc := va_free (wc := [(mc, .inr (3, [.int res, .int stp, .int pcn, .ref ky, .ref vy, .ref gy, .ref ly, .ref sy, .int hgt, .int ap])), (ky, .inl (cI, 20, .inl fk)), (vy, .inl (cI, 20, .inl fv)), (gy, .inl (cI, 3, .inl fa)), (ly, .inl (cI, 4, .inl fl)), (sy, .inl (cI, 8, .inl fs))]) hD hS hA [0, 1, 2, 3, 4, 5] rfl
    refine va_calli (va_runV (As := []) (rest := [.int n, .ref ly]) ⟨hx, hb, hml, hown, hts⟩ (c_Machine_pop l D cI cZ tN tG s.heap.size mc ky vy gy ly sy res stp pcn fk fv fa fl fs hgt ap) (cwV 0 hts (gd4 k_270 k_272 k_7 k_21 k_273) rfl rfl rfl (by decide +kernel) ⟨Nat.le_of_ble_eq_true rfl, Nat.le_of_ble_eq_true rfl⟩) ⟨MZ_blind, va_recv (q0 := 0) (ci := 3) hE.1 hP rfl rfl, mz_pre hE hZ hS hPc hDc hFc⟩ rfl rfl hl.1 rfl (lv_room (Nat.le_of_ble_eq_true rfl)) d_Machine_move_88 ⟨Nat.zero_le _, Nat.zero_le _⟩) hS (fun q _ h => hFc q h) hFc (fun r u t H1 locs ht hvm hw hB hz1 hk1 hS => ?_)
    obtain ⟨hP1, hD1⟩ := hB
    rw [ht] at hP1
    subst hw
    obtain ⟨hP, hD⟩ := va_join (wr := []) (w1 := [(mc, .inr (3, [.int res, .int stp, .int pcn, .ref ky, .ref vy, .ref gy, .ref ly, .ref sy, .int (hgt - 1), .int ap])), (ky, .inl (cI, 20, .inl fk)), (vy, .inl (cI, 20, .inl fv)), (gy, .inl (cI, 3, .inl fa)), (ly, .inl (cI, 4, .inl fl)), (sy, .inl (cI, 8, .inl fs))]) hP hD [0, 1, 2, 3, 4, 5] [] rfl rfl (by decide) (by decide) hk1 hFc hP1 hD1
    generalize H1 = H at hP hS ⊢
    have hP : va_P D classes [(mc, .inr (3, [.int res, .int stp, .int pcn, .ref ky, .ref vy, .ref gy, .ref ly, .ref sy, .int (hgt - 1), .int ap])), (ky, .inl (cI, 20, .inl fk)), (vy, .inl (cI, 20, .inl fv)), (gy, .inl (cI, 3, .inl fa)), (ly, .inl (cI, 4, .inl fl)), (sy, .inl (cI, 8, .inl fs))] H := hP
    have hD : va_D A [(mc, .inr (3, [.int res, .int stp, .int pcn, .ref ky, .ref vy, .ref gy, .ref ly, .ref sy, .int (hgt - 1), .int ap])), (ky, .inl (cI, 20, .inl fk)), (vy, .inl (cI, 20, .inl fv)), (gy, .inl (cI, 3, .inl fa)), (ly, .inl (cI, 4, .inl fl)), (sy, .inl (cI, 8, .inl fs))] := hD
    have hPc := hP.sub (ws' := [(ly, .inl (cI, 4, .inl fl))]) [4] rfl
    have hDc := hD.sub (ws' := [(ly, .inl (cI, 4, .inl fl))]) [4] (by decide) rfl
    have hFc := va_free (wc := [(ly, .inl (cI, 4, .inl fl))]) hD hS hA [4] rfl
    refine va_callv (va_runSN (As := [.ref ly, .int n, .int (rd fs 8 (hgt - 1))]) (rest := []) ⟨hx, hb, hml, hown, hts⟩ (c_SJ_write l D cI cZ tN tG H.size ly 4 fl n (rd fs 8 (hgt - 1)) (by decide)) ⟨va_cnB 3 hts (gd k_139) rfl rfl rfl (hE.2 _ nm_7) (hts _ k_18) (by decide +kernel) ⟨Nat.le_of_ble_eq_true rfl, Nat.le_of_ble_eq_true rfl⟩, hts _ k_138, trivial⟩ ⟨MZ_blind, mz_pre hE hZ hS hPc hDc hFc⟩ rfl rfl hl.1 rfl (lv_room (Nat.le_of_ble_eq_true rfl)) d_Machine_move_91 ⟨Nat.zero_le _, Nat.zero_le _⟩) hS (fun q _ h => hFc q h) hFc (fun u t H1 locs ht hvm hw hB hz1 hk1 hS => ?_)
    obtain ⟨hP1, hD1⟩ := hB
    rw [ht] at hP1
    subst hw
    obtain ⟨hP, hD⟩ := va_join (wr := [(mc, .inr (3, [.int res, .int stp, .int pcn, .ref ky, .ref vy, .ref gy, .ref ly, .ref sy, .int (hgt - 1), .int ap])), (ky, .inl (cI, 20, .inl fk)), (vy, .inl (cI, 20, .inl fv)), (gy, .inl (cI, 3, .inl fa)), (sy, .inl (cI, 8, .inl fs))]) (w1 := [(ly, .inl (cI, 4, .inl (wr fl 4 n (rd fs 8 (hgt - 1)))))]) hP hD [4] [0, 1, 2, 3, 5] rfl rfl (by decide) (by decide) hk1 hFc hP1 hD1
    generalize H1 = H at hP hS ⊢
    have hP : va_P D classes [(mc, .inr (3, [.int res, .int stp, .int pcn, .ref ky, .ref vy, .ref gy, .ref ly, .ref sy, .int (hgt - 1), .int ap])), (ky, .inl (cI, 20, .inl fk)), (vy, .inl (cI, 20, .inl fv)), (gy, .inl (cI, 3, .inl fa)), (sy, .inl (cI, 8, .inl fs)), (ly, .inl (cI, 4, .inl (wr fl 4 n (rd fs 8 (hgt - 1)))))] H := hP
    have hD : va_D A [(mc, .inr (3, [.int res, .int stp, .int pcn, .ref ky, .ref vy, .ref gy, .ref ly, .ref sy, .int (hgt - 1), .int ap])), (ky, .inl (cI, 20, .inl fk)), (vy, .inl (cI, 20, .inl fv)), (gy, .inl (cI, 3, .inl fa)), (sy, .inl (cI, 8, .inl fs)), (ly, .inl (cI, 4, .inl (wr fl 4 n (rd fs 8 (hgt - 1)))))] := hD
    refine lv_goto (tgt := 174) hx hb d_Machine_move_94 (by decide) ?_
    refine W.vret hx hb hr (fun t ht hW => ⟨⟨(res, stp, pcn, fk, fv, fa, (wr fl 4 n (rd fs 8 (hgt - 1))), fs, (hgt - 1), ap), rfl, ?_, ?_⟩, hS.F ht⟩) hS.2.2 d_Machine_move_174
    · rfl
    · exact ⟨by rw [ht]; exact hP.sub [0, 1, 2, 3, 5, 4] rfl, hD.sub [0, 1, 2, 3, 5, 4] (by decide) rfl⟩
  · -- case 4
    have h1 : op = 4 := Int32.toInt_inj.mp (by rw [h1]; decide)
    subst h1
    refine lv_tableIn (tgt := 105) (off := 104) hx hb d_Machine_move_1 (by decide) (by decide) (by decide +kernel) (by decide) ?_
    refine lv_aload_n hx hb d_Machine_move_105 rfl (lv_at hl 0 rfl) ?_
    have hPc := hP.sub (ws' := [(mc, .inr (3, [.int res, .int stp, .int pcn, .ref ky, .ref vy, .ref gy, .ref ly, .ref sy, .int hgt, .int ap])), (ky, .inl (cI, 20, .inl fk)), (vy, .inl (cI, 20, .inl fv)), (gy, .inl (cI, 3, .inl fa)), (ly, .inl (cI, 4, .inl fl)), (sy, .inl (cI, 8, .inl fs))]) [0, 1, 2, 3, 4, 5] rfl
    have hDc := hD.sub (ws' := [(mc, .inr (3, [.int res, .int stp, .int pcn, .ref ky, .ref vy, .ref gy, .ref ly, .ref sy, .int hgt, .int ap])), (ky, .inl (cI, 20, .inl fk)), (vy, .inl (cI, 20, .inl fv)), (gy, .inl (cI, 3, .inl fa)), (ly, .inl (cI, 4, .inl fl)), (sy, .inl (cI, 8, .inl fs))]) [0, 1, 2, 3, 4, 5] (by decide) rfl
    have hFc := va_free (wc := [(mc, .inr (3, [.int res, .int stp, .int pcn, .ref ky, .ref vy, .ref gy, .ref ly, .ref sy, .int hgt, .int ap])), (ky, .inl (cI, 20, .inl fk)), (vy, .inl (cI, 20, .inl fv)), (gy, .inl (cI, 3, .inl fa)), (ly, .inl (cI, 4, .inl fl)), (sy, .inl (cI, 8, .inl fs))]) hD hS hA [0, 1, 2, 3, 4, 5] rfl
    refine va_calli (va_runV (As := []) (rest := []) ⟨hx, hb, hml, hown, hts⟩ (c_Machine_pop l D cI cZ tN tG s.heap.size mc ky vy gy ly sy res stp pcn fk fv fa fl fs hgt ap) (cwV 0 hts (gd4 k_270 k_272 k_7 k_21 k_273) rfl rfl rfl (by decide +kernel) ⟨Nat.le_of_ble_eq_true rfl, Nat.le_of_ble_eq_true rfl⟩) ⟨MZ_blind, va_recv (q0 := 0) (ci := 3) hE.1 hP rfl rfl, mz_pre hE hZ hS hPc hDc hFc⟩ rfl rfl hl.1 rfl (lv_room (Nat.le_of_ble_eq_true rfl)) d_Machine_move_106 ⟨Nat.zero_le _, Nat.zero_le _⟩) hS (fun q _ h => hFc q h) hFc (fun r u t H1 locs ht hvm hw hB hz1 hk1 hS => ?_)
    obtain ⟨hP1, hD1⟩ := hB
    rw [ht] at hP1
    subst hw
    obtain ⟨hP, hD⟩ := va_join (wr := []) (w1 := [(mc, .inr (3, [.int res, .int stp, .int pcn, .ref ky, .ref vy, .ref gy, .ref ly, .ref sy, .int (hgt - 1), .int ap])), (ky, .inl (cI, 20, .inl fk)), (vy, .inl (cI, 20, .inl fv)), (gy, .inl (cI, 3, .inl fa)), (ly, .inl (cI, 4, .inl fl)), (sy, .inl (cI, 8, .inl fs))]) hP hD [0, 1, 2, 3, 4, 5] [] rfl rfl (by decide) (by decide) hk1 hFc hP1 hD1
    generalize H1 = H at hP hS ⊢
    have hP : va_P D classes [(mc, .inr (3, [.int res, .int stp, .int pcn, .ref ky, .ref vy, .ref gy, .ref ly, .ref sy, .int (hgt - 1), .int ap])), (ky, .inl (cI, 20, .inl fk)), (vy, .inl (cI, 20, .inl fv)), (gy, .inl (cI, 3, .inl fa)), (ly, .inl (cI, 4, .inl fl)), (sy, .inl (cI, 8, .inl fs))] H := hP
    have hD : va_D A [(mc, .inr (3, [.int res, .int stp, .int pcn, .ref ky, .ref vy, .ref gy, .ref ly, .ref sy, .int (hgt - 1), .int ap])), (ky, .inl (cI, 20, .inl fk)), (vy, .inl (cI, 20, .inl fv)), (gy, .inl (cI, 3, .inl fa)), (ly, .inl (cI, 4, .inl fl)), (sy, .inl (cI, 8, .inl fs))] := hD
    refine lv_istore_n hx hb d_Machine_move_109 rfl hl (by decide) rfl (fun ls hl => ?_)
    have hl : lv_has ls 8 [(3, .int (rd fs 8 (hgt - 1))), (0, .ref mc), (1, .int 4), (2, .int n)] := hl
    refine lv_aload_n hx hb d_Machine_move_110 rfl (lv_at hl 1 rfl) ?_
    refine lv_iload_n hx hb d_Machine_move_111 rfl (lv_at hl 0 rfl) ?_
    have hPc := hP.sub (ws' := [(mc, .inr (3, [.int res, .int stp, .int pcn, .ref ky, .ref vy, .ref gy, .ref ly, .ref sy, .int (hgt - 1), .int ap])), (ky, .inl (cI, 20, .inl fk)), (vy, .inl (cI, 20, .inl fv)), (gy, .inl (cI, 3, .inl fa)), (ly, .inl (cI, 4, .inl fl)), (sy, .inl (cI, 8, .inl fs))]) [0, 1, 2, 3, 4, 5] rfl
    have hDc := hD.sub (ws' := [(mc, .inr (3, [.int res, .int stp, .int pcn, .ref ky, .ref vy, .ref gy, .ref ly, .ref sy, .int (hgt - 1), .int ap])), (ky, .inl (cI, 20, .inl fk)), (vy, .inl (cI, 20, .inl fv)), (gy, .inl (cI, 3, .inl fa)), (ly, .inl (cI, 4, .inl fl)), (sy, .inl (cI, 8, .inl fs))]) [0, 1, 2, 3, 4, 5] (by decide) rfl
    have hFc := va_free (wc := [(mc, .inr (3, [.int res, .int stp, .int pcn, .ref ky, .ref vy, .ref gy, .ref ly, .ref sy, .int (hgt - 1), .int ap])), (ky, .inl (cI, 20, .inl fk)), (vy, .inl (cI, 20, .inl fv)), (gy, .inl (cI, 3, .inl fa)), (ly, .inl (cI, 4, .inl fl)), (sy, .inl (cI, 8, .inl fs))]) hD hS hA [0, 1, 2, 3, 4, 5] rfl
    refine va_callv (va_runV (As := [.int (rd fs 8 (hgt - 1))]) (rest := []) ⟨hx, hb, hml, hown, hts⟩ (c_Machine_push l D cI cZ tN tG H.size mc ky vy gy ly sy res stp pcn fk fv fa fl fs (hgt - 1) ap (rd fs 8 (hgt - 1))) (cwV 1 hts (gd4 k_283 k_285 k_10 k_21 k_286) rfl rfl rfl (by decide +kernel) ⟨Nat.le_of_ble_eq_true rfl, Nat.le_of_ble_eq_true rfl⟩) ⟨MZ_blind, va_recv (q0 := 0) (ci := 3) hE.1 hP rfl rfl, mz_pre hE hZ hS hPc hDc hFc⟩ rfl rfl hl.1 rfl (lv_room (Nat.le_of_ble_eq_true rfl)) d_Machine_move_112 ⟨Nat.zero_le _, Nat.zero_le _⟩) hS (fun q _ h => hFc q h) hFc (fun u t H1 locs ht hvm hw hB hz1 hk1 hS => ?_)
    obtain ⟨hP1, hD1⟩ := hB
    rw [ht] at hP1
    obtain ⟨hP, hD⟩ := va_join (wr := []) (w1 := [(mc, .inr (3, [.int res, .int stp, .int pcn, .ref ky, .ref vy, .ref gy, .ref ly, .ref sy, .int ((hgt - 1) + 1), .int ap])), (ky, .inl (cI, 20, .inl fk)), (vy, .inl (cI, 20, .inl fv)), (gy, .inl (cI, 3, .inl fa)), (ly, .inl (cI, 4, .inl fl)), (sy, .inl (cI, 8, .inl (wr fs 8 (hgt - 1) (rd fs 8 (hgt - 1)))))]) hP hD [0, 1, 2, 3, 4, 5] [] rfl rfl (by decide) (by decide) hk1 hFc hP1 hD1
    generalize H1 = H at hP hS ⊢
    have hP : va_P D classes [(mc, .inr (3, [.int res, .int stp, .int pcn, .ref ky, .ref vy, .ref gy, .ref ly, .ref sy, .int ((hgt - 1) + 1), .int ap])), (ky, .inl (cI, 20, .inl fk)), (vy, .inl (cI, 20, .inl fv)), (gy, .inl (cI, 3, .inl fa)), (ly, .inl (cI, 4, .inl fl)), (sy, .inl (cI, 8, .inl (wr fs 8 (hgt - 1) (rd fs 8 (hgt - 1)))))] H := hP
    have hD : va_D A [(mc, .inr (3, [.int res, .int stp, .int pcn, .ref ky, .ref vy, .ref gy, .ref ly, .ref sy, .int ((hgt - 1) + 1), .int ap])), (ky, .inl (cI, 20, .inl fk)), (vy, .inl (cI, 20, .inl fv)), (gy, .inl (cI, 3, .inl fa)), (ly, .inl (cI, 4, .inl fl)), (sy, .inl (cI, 8, .inl (wr fs 8 (hgt - 1) (rd fs 8 (hgt - 1)))))] := hD
    refine lv_aload_n hx hb d_Machine_move_115 rfl (lv_at hl 1 rfl) ?_
    refine lv_iload_n hx hb d_Machine_move_116 rfl (lv_at hl 0 rfl) ?_
    have hPc := hP.sub (ws' := [(mc, .inr (3, [.int res, .int stp, .int pcn, .ref ky, .ref vy, .ref gy, .ref ly, .ref sy, .int ((hgt - 1) + 1), .int ap])), (ky, .inl (cI, 20, .inl fk)), (vy, .inl (cI, 20, .inl fv)), (gy, .inl (cI, 3, .inl fa)), (ly, .inl (cI, 4, .inl fl)), (sy, .inl (cI, 8, .inl (wr fs 8 (hgt - 1) (rd fs 8 (hgt - 1)))))]) [0, 1, 2, 3, 4, 5] rfl
    have hDc := hD.sub (ws' := [(mc, .inr (3, [.int res, .int stp, .int pcn, .ref ky, .ref vy, .ref gy, .ref ly, .ref sy, .int ((hgt - 1) + 1), .int ap])), (ky, .inl (cI, 20, .inl fk)), (vy, .inl (cI, 20, .inl fv)), (gy, .inl (cI, 3, .inl fa)), (ly, .inl (cI, 4, .inl fl)), (sy, .inl (cI, 8, .inl (wr fs 8 (hgt - 1) (rd fs 8 (hgt - 1)))))]) [0, 1, 2, 3, 4, 5] (by decide) rfl
    have hFc := va_free (wc := [(mc, .inr (3, [.int res, .int stp, .int pcn, .ref ky, .ref vy, .ref gy, .ref ly, .ref sy, .int ((hgt - 1) + 1), .int ap])), (ky, .inl (cI, 20, .inl fk)), (vy, .inl (cI, 20, .inl fv)), (gy, .inl (cI, 3, .inl fa)), (ly, .inl (cI, 4, .inl fl)), (sy, .inl (cI, 8, .inl (wr fs 8 (hgt - 1) (rd fs 8 (hgt - 1)))))]) hD hS hA [0, 1, 2, 3, 4, 5] rfl
    refine va_callv (va_runV (As := [.int (rd fs 8 (hgt - 1))]) (rest := []) ⟨hx, hb, hml, hown, hts⟩ (c_Machine_push l D cI cZ tN tG H.size mc ky vy gy ly sy res stp pcn fk fv fa fl (wr fs 8 (hgt - 1) (rd fs 8 (hgt - 1))) ((hgt - 1) + 1) ap (rd fs 8 (hgt - 1))) (cwV 1 hts (gd4 k_283 k_285 k_10 k_21 k_286) rfl rfl rfl (by decide +kernel) ⟨Nat.le_of_ble_eq_true rfl, Nat.le_of_ble_eq_true rfl⟩) ⟨MZ_blind, va_recv (q0 := 0) (ci := 3) hE.1 hP rfl rfl, mz_pre hE hZ hS hPc hDc hFc⟩ rfl rfl hl.1 rfl (lv_room (Nat.le_of_ble_eq_true rfl)) d_Machine_move_117 ⟨Nat.zero_le _, Nat.zero_le _⟩) hS (fun q _ h => hFc q h) hFc (fun u t H1 locs ht hvm hw hB hz1 hk1 hS => ?_)
    obtain ⟨hP1, hD1⟩ := hB
    rw [ht] at hP1
    obtain ⟨hP, hD⟩ := va_join (wr := []) (w1 := [(mc, .inr (3, [.int res, .int stp, .int pcn, .ref ky, .ref vy, .ref gy, .ref ly, .ref sy, .int (((hgt - 1) + 1) + 1), .int ap])), (ky, .inl (cI, 20, .inl fk)), (vy, .inl (cI, 20, .inl fv)), (gy, .inl (cI, 3, .inl fa)), (ly, .inl (cI, 4, .inl fl)), (sy, .inl (cI, 8, .inl (wr (wr fs 8 (hgt - 1) (rd fs 8 (hgt - 1))) 8 ((hgt - 1) + 1) (rd fs 8 (hgt - 1)))))]) hP hD [0, 1, 2, 3, 4, 5] [] rfl rfl (by decide) (by decide) hk1 hFc hP1 hD1
    generalize H1 = H at hP hS ⊢
    have hP : va_P D classes [(mc, .inr (3, [.int res, .int stp, .int pcn, .ref ky, .ref vy, .ref gy, .ref ly, .ref sy, .int (((hgt - 1) + 1) + 1), .int ap])), (ky, .inl (cI, 20, .inl fk)), (vy, .inl (cI, 20, .inl fv)), (gy, .inl (cI, 3, .inl fa)), (ly, .inl (cI, 4, .inl fl)), (sy, .inl (cI, 8, .inl (wr (wr fs 8 (hgt - 1) (rd fs 8 (hgt - 1))) 8 ((hgt - 1) + 1) (rd fs 8 (hgt - 1)))))] H := hP
    have hD : va_D A [(mc, .inr (3, [.int res, .int stp, .int pcn, .ref ky, .ref vy, .ref gy, .ref ly, .ref sy, .int (((hgt - 1) + 1) + 1), .int ap])), (ky, .inl (cI, 20, .inl fk)), (vy, .inl (cI, 20, .inl fv)), (gy, .inl (cI, 3, .inl fa)), (ly, .inl (cI, 4, .inl fl)), (sy, .inl (cI, 8, .inl (wr (wr fs 8 (hgt - 1) (rd fs 8 (hgt - 1))) 8 ((hgt - 1) + 1) (rd fs 8 (hgt - 1)))))] := hD
    refine lv_goto (tgt := 174) hx hb d_Machine_move_120 (by decide) ?_
    refine W.vret hx hb hr (fun t ht hW => ⟨⟨(res, stp, pcn, fk, fv, fa, fl, (wr (wr fs 8 (hgt - 1) (rd fs 8 (hgt - 1))) 8 ((hgt - 1) + 1) (rd fs 8 (hgt - 1))), (((hgt - 1) + 1) + 1), ap), rfl, ?_, ?_⟩, hS.F ht⟩) hS.2.2 d_Machine_move_174
    · rfl
    · exact ⟨by rw [ht]; exact hP.sub [0, 1, 2, 3, 4, 5] rfl, hD.sub [0, 1, 2, 3, 4, 5] (by decide) rfl⟩
  · -- case 5
    have h1 : op = 5 := Int32.toInt_inj.mp (by rw [h1]; decide)
    subst h1
    refine lv_tableIn (tgt := 123) (off := 122) hx hb d_Machine_move_1 (by decide) (by decide) (by decide +kernel) (by decide) ?_
    refine lv_aload_n hx hb d_Machine_move_123 rfl (lv_at hl 0 rfl) ?_
    have hPc := hP.sub (ws' := [(mc, .inr (3, [.int res, .int stp, .int pcn, .ref ky, .ref vy, .ref gy, .ref ly, .ref sy, .int hgt, .int ap])), (ky, .inl (cI, 20, .inl fk)), (vy, .inl (cI, 20, .inl fv)), (gy, .inl (cI, 3, .inl fa)), (ly, .inl (cI, 4, .inl fl)), (sy, .inl (cI, 8, .inl fs))]) [0, 1, 2, 3, 4, 5] rfl
    have hDc := hD.sub (ws' := [(mc, .inr (3, [.int res, .int stp, .int pcn, .ref ky, .ref vy, .ref gy, .ref ly, .ref sy, .int hgt, .int ap])), (ky, .inl (cI, 20, .inl fk)), (vy, .inl (cI, 20, .inl fv)), (gy, .inl (cI, 3, .inl fa)), (ly, .inl (cI, 4, .inl fl)), (sy, .inl (cI, 8, .inl fs))]) [0, 1, 2, 3, 4, 5] (by decide) rfl
    have hFc := va_free (wc := [(mc, .inr (3, [.int res, .int stp, .int pcn, .ref ky, .ref vy, .ref gy, .ref ly, .ref sy, .int hgt, .int ap])), (ky, .inl (cI, 20, .inl fk)), (vy, .inl (cI, 20, .inl fv)), (gy, .inl (cI, 3, .inl fa)), (ly, .inl (cI, 4, .inl fl)), (sy, .inl (cI, 8, .inl fs))]) hD hS hA [0, 1, 2, 3, 4, 5] rfl
    refine va_calli (va_runV (As := []) (rest := []) ⟨hx, hb, hml, hown, hts⟩ (c_Machine_pop l D cI cZ tN tG s.heap.size mc ky vy gy ly sy res stp pcn fk fv fa fl fs hgt ap) (cwV 0 hts (gd4 k_270 k_272 k_7 k_21 k_273) rfl rfl rfl (by decide +kernel) ⟨Nat.le_of_ble_eq_true rfl, Nat.le_of_ble_eq_true rfl⟩) ⟨MZ_blind, va_recv (q0 := 0) (ci := 3) hE.1 hP rfl rfl, mz_pre hE hZ hS hPc hDc hFc⟩ rfl rfl hl.1 rfl (lv_room (Nat.le_of_ble_eq_true rfl)) d_Machine_move_124 ⟨Nat.zero_le _, Nat.zero_le _⟩) hS (fun q _ h => hFc q h) hFc (fun r u t H1 locs ht hvm hw hB hz1 hk1 hS => ?_)
    obtain ⟨hP1, hD1⟩ := hB
    rw [ht] at hP1
    subst hw
    obtain ⟨hP, hD⟩ := va_join (wr := []) (w1 := [(mc, .inr (3, [.int res, .int stp, .int pcn, .ref ky, .ref vy, .ref gy, .ref ly, .ref sy, .int (hgt - 1), .int ap])), (ky, .inl (cI, 20, .inl fk)), (vy, .inl (cI, 20, .inl fv)), (gy, .inl (cI, 3, .inl fa)), (ly, .inl (cI, 4, .inl fl)), (sy, .inl (cI, 8, .inl fs))]) hP hD [0, 1, 2, 3, 4, 5] [] rfl rfl (by decide) (by decide) hk1 hFc hP1 hD1
    generalize H1 = H at hP hS ⊢
    have hP : va_P D classes [(mc, .inr (3, [.int res, .int stp, .int pcn, .ref ky, .ref vy, .ref gy, .ref ly, .ref sy, .int (hgt - 1), .int ap])), (ky, .inl (cI, 20, .inl fk)), (vy, .inl (cI, 20, .inl fv)), (gy, .inl (cI, 3, .inl fa)), (ly, .inl (cI, 4, .inl fl)), (sy, .inl (cI, 8, .inl fs))] H := hP
    have hD : va_D A [(mc, .inr (3, [.int res, .int stp, .int pcn, .ref ky, .ref vy, .ref gy, .ref ly, .ref sy, .int (hgt - 1), .int ap])), (ky, .inl (cI, 20, .inl fk)), (vy, .inl (cI, 20, .inl fv)), (gy, .inl (cI, 3, .inl fa)), (ly, .inl (cI, 4, .inl fl)), (sy, .inl (cI, 8, .inl fs))] := hD
    refine lv_istore hx hb d_Machine_move_127 hl (by decide) rfl (fun ls hl => ?_)
    have hl : lv_has ls 8 [(4, .int (rd fs 8 (hgt - 1))), (0, .ref mc), (1, .int 5), (2, .int n)] := hl
    refine lv_aload_n hx hb d_Machine_move_129 rfl (lv_at hl 1 rfl) ?_
    have hPc := hP.sub (ws' := [(mc, .inr (3, [.int res, .int stp, .int pcn, .ref ky, .ref vy, .ref gy, .ref ly, .ref sy, .int (hgt - 1), .int ap])), (ky, .inl (cI, 20, .inl fk)), (vy, .inl (cI, 20, .inl fv)), (gy, .inl (cI, 3, .inl fa)), (ly, .inl (cI, 4, .inl fl)), (sy, .inl (cI, 8, .inl fs))]) [0, 1, 2, 3, 4, 5] rfl
    have hDc := hD.sub (ws' := [(mc, .inr (3, [.int res, .int stp, .int pcn, .ref ky, .ref vy, .ref gy, .ref ly, .ref sy, .int (hgt - 1), .int ap])), (ky, .inl (cI, 20, .inl fk)), (vy, .inl (cI, 20, .inl fv)), (gy, .inl (cI, 3, .inl fa)), (ly, .inl (cI, 4, .inl fl)), (sy, .inl (cI, 8, .inl fs))]) [0, 1, 2, 3, 4, 5] (by decide) rfl
    have hFc := va_free (wc := [(mc, .inr (3, [.int res, .int stp, .int pcn, .ref ky, .ref vy, .ref gy, .ref ly, .ref sy, .int (hgt - 1), .int ap])), (ky, .inl (cI, 20, .inl fk)), (vy, .inl (cI, 20, .inl fv)), (gy, .inl (cI, 3, .inl fa)), (ly, .inl (cI, 4, .inl fl)), (sy, .inl (cI, 8, .inl fs))]) hD hS hA [0, 1, 2, 3, 4, 5] rfl
    refine va_calli (va_runV (As := []) (rest := []) ⟨hx, hb, hml, hown, hts⟩ (c_Machine_pop l D cI cZ tN tG H.size mc ky vy gy ly sy res stp pcn fk fv fa fl fs (hgt - 1) ap) (cwV 0 hts (gd4 k_270 k_272 k_7 k_21 k_273) rfl rfl rfl (by decide +kernel) ⟨Nat.le_of_ble_eq_true rfl, Nat.le_of_ble_eq_true rfl⟩) ⟨MZ_blind, va_recv (q0 := 0) (ci := 3) hE.1 hP rfl rfl, mz_pre hE hZ hS hPc hDc hFc⟩ rfl rfl hl.1 rfl (lv_room (Nat.le_of_ble_eq_true rfl)) d_Machine_move_130 ⟨Nat.zero_le _, Nat.zero_le _⟩) hS (fun q _ h => hFc q h) hFc (fun r u t H1 locs ht hvm hw hB hz1 hk1 hS => ?_)
    obtain ⟨hP1, hD1⟩ := hB
    rw [ht] at hP1
    subst hw
    obtain ⟨hP, hD⟩ := va_join (wr := []) (w1 := [(mc, .inr (3, [.int res, .int stp, .int pcn, .ref ky, .ref vy, .ref gy, .ref ly, .ref sy, .int ((hgt - 1) - 1), .int ap])), (ky, .inl (cI, 20, .inl fk)), (vy, .inl (cI, 20, .inl fv)), (gy, .inl (cI, 3, .inl fa)), (ly, .inl (cI, 4, .inl fl)), (sy, .inl (cI, 8, .inl fs))]) hP hD [0, 1, 2, 3, 4, 5] [] rfl rfl (by decide) (by decide) hk1 hFc hP1 hD1
    generalize H1 = H at hP hS ⊢
    have hP : va_P D classes [(mc, .inr (3, [.int res, .int stp, .int pcn, .ref ky, .ref vy, .ref gy, .ref ly, .ref sy, .int ((hgt - 1) - 1), .int ap])), (ky, .inl (cI, 20, .inl fk)), (vy, .inl (cI, 20, .inl fv)), (gy, .inl (cI, 3, .inl fa)), (ly, .inl (cI, 4, .inl fl)), (sy, .inl (cI, 8, .inl fs))] H := hP
    have hD : va_D A [(mc, .inr (3, [.int res, .int stp, .int pcn, .ref ky, .ref vy, .ref gy, .ref ly, .ref sy, .int ((hgt - 1) - 1), .int ap])), (ky, .inl (cI, 20, .inl fk)), (vy, .inl (cI, 20, .inl fv)), (gy, .inl (cI, 3, .inl fa)), (ly, .inl (cI, 4, .inl fl)), (sy, .inl (cI, 8, .inl fs))] := hD
    refine lv_istore hx hb d_Machine_move_133 hl (by decide) rfl (fun ls hl => ?_)
    have hl : lv_has ls 8 [(5, .int (rd fs 8 ((hgt - 1) - 1))), (4, .int (rd fs 8 (hgt - 1))), (0, .ref mc), (1, .int 5), (2, .int n)] := hl
    refine lv_aload_n hx hb d_Machine_move_135 rfl (lv_at hl 2 rfl) ?_
    refine lv_iload hx hb d_Machine_move_136 (lv_at hl 1 rfl) ?_
    have hPc := hP.sub (ws' := [(mc, .inr (3, [.int res, .int stp, .int pcn, .ref ky, .ref vy, .ref gy, .ref ly, .ref sy, .int ((hgt - 1) - 1), .int ap])), (ky, .inl (cI, 20, .inl fk)), (vy, .inl (cI, 20, .inl fv)), (gy, .inl (cI, 3, .inl fa)), (ly, .inl (cI, 4, .inl fl)), (sy, .inl (cI, 8, .inl fs))]) [0, 1, 2, 3, 4, 5] rfl
    have hDc := hD.sub (ws' := [(mc, .inr (3, [.int res, .int stp, .int pcn, .ref ky, .ref vy, .ref gy, .ref ly, .ref sy, .int ((hgt - 1) - 1), .int ap])), (ky, .inl (cI, 20, .inl fk)), (vy, .inl (cI, 20, .inl fv)), (gy, .inl (cI, 3, .inl fa)), (ly, .inl (cI, 4, .inl fl)), (sy, .inl (cI, 8, .inl fs))]) [0, 1, 2, 3, 4, 5] (by decide) rfl
    have hFc := va_free (wc := [(mc, .inr (3, [.int res, .int stp, .int pcn, .ref ky, .ref vy, .ref gy, .ref ly, .ref sy, .int ((hgt - 1) - 1), .int ap])), (ky, .inl (cI, 20, .inl fk)), (vy, .inl (cI, 20, .inl fv)), (gy, .inl (cI, 3, .inl fa)), (ly, .inl (cI, 4, .inl fl)), (sy, .inl (cI, 8, .inl fs))]) hD hS hA [0, 1, 2, 3, 4, 5] rfl
    refine va_callv (va_runV (As := [.int (rd fs 8 (hgt - 1))]) (rest := []) ⟨hx, hb, hml, hown, hts⟩ (c_Machine_push l D cI cZ tN tG H.size mc ky vy gy ly sy res stp pcn fk fv fa fl fs ((hgt - 1) - 1) ap (rd fs 8 (hgt - 1))) (cwV 1 hts (gd4 k_283 k_285 k_10 k_21 k_286) rfl rfl rfl (by decide +kernel) ⟨Nat.le_of_ble_eq_true rfl, Nat.le_of_ble_eq_true rfl⟩) ⟨MZ_blind, va_recv (q0 := 0) (ci := 3) hE.1 hP rfl rfl, mz_pre hE hZ hS hPc hDc hFc⟩ rfl rfl hl.1 rfl (lv_room (Nat.le_of_ble_eq_true rfl)) d_Machine_move_138 ⟨Nat.zero_le _, Nat.zero_le _⟩) hS (fun q _ h => hFc q h) hFc (fun u t H1 locs ht hvm hw hB hz1 hk1 hS => ?_)
    obtain ⟨hP1, hD1⟩ := hB
    rw [ht] at hP1
    obtain ⟨hP, hD⟩ := va_join (wr := []) (w1 := [(mc, .inr (3, [.int res, .int stp, .int pcn, .ref ky, .ref vy, .ref gy, .ref ly, .ref sy, .int (((hgt - 1) - 1) + 1), .int ap])), (ky, .inl (cI, 20, .inl fk)), (vy, .inl (cI, 20, .inl fv)), (gy, .inl (cI, 3, .inl fa)), (ly, .inl (cI, 4, .inl fl)), (sy, .inl (cI, 8, .inl (wr fs 8 ((hgt - 1) - 1) (rd fs 8 (hgt - 1)))))]) hP hD [0, 1, 2, 3, 4, 5] [] rfl rfl (by decide) (by decide) hk1 hFc hP1 hD1
    generalize H1 = H at hP hS ⊢
    have hP : va_P D classes [(mc, .inr (3, [.int res, .int stp, .int pcn, .ref ky, .ref vy, .ref gy, .ref ly, .ref sy, .int (((hgt - 1) - 1) + 1), .int ap])), (ky, .inl (cI, 20, .inl fk)), (vy, .inl (cI, 20, .inl fv)), (gy, .inl (cI, 3, .inl fa)), (ly, .inl (cI, 4, .inl fl)), (sy, .inl (cI, 8, .inl (wr fs 8 ((hgt - 1) - 1) (rd fs 8 (hgt - 1)))))] H := hP
    have hD : va_D A [(mc, .inr (3, [.int res, .int stp, .int pcn, .ref ky, .ref vy, .ref gy, .ref ly, .ref sy, .int (((hgt - 1) - 1) + 1), .int ap])), (ky, .inl (cI, 20, .inl fk)), (vy, .inl (cI, 20, .inl fv)), (gy, .inl (cI, 3, .inl fa)), (ly, .inl (cI, 4, .inl fl)), (sy, .inl (cI, 8, .inl (wr fs 8 ((hgt - 1) - 1) (rd fs 8 (hgt - 1)))))] := hD
    refine lv_aload_n hx hb d_Machine_move_141 rfl (lv_at hl 2 rfl) ?_
    refine lv_iload hx hb d_Machine_move_142 (lv_at hl 0 rfl) ?_
    have hPc := hP.sub (ws' := [(mc, .inr (3, [.int res, .int stp, .int pcn, .ref ky, .ref vy, .ref gy, .ref ly, .ref sy, .int (((hgt - 1) - 1) + 1), .int ap])), (ky, .inl (cI, 20, .inl fk)), (vy, .inl (cI, 20, .inl fv)), (gy, .inl (cI, 3, .inl fa)), (ly, .inl (cI, 4, .inl fl)), (sy, .inl (cI, 8, .inl (wr fs 8 ((hgt - 1) - 1) (rd fs 8 (hgt - 1)))))]) [0, 1, 2, 3, 4, 5] rfl
    have hDc := hD.sub (ws' := [(mc, .inr (3, [.int res, .int stp, .int pcn, .ref ky, .ref vy, .ref gy, .ref ly, .ref sy, .int (((hgt - 1) - 1) + 1), .int ap])), (ky, .inl (cI, 20, .inl fk)), (vy, .inl (cI, 20, .inl fv)), (gy, .inl (cI, 3, .inl fa)), (ly, .inl (cI, 4, .inl fl)), (sy, .inl (cI, 8, .inl (wr fs 8 ((hgt - 1) - 1) (rd fs 8 (hgt - 1)))))]) [0, 1, 2, 3, 4, 5] (by decide) rfl
    have hFc := va_free (wc := [(mc, .inr (3, [.int res, .int stp, .int pcn, .ref ky, .ref vy, .ref gy, .ref ly, .ref sy, .int (((hgt - 1) - 1) + 1), .int ap])), (ky, .inl (cI, 20, .inl fk)), (vy, .inl (cI, 20, .inl fv)), (gy, .inl (cI, 3, .inl fa)), (ly, .inl (cI, 4, .inl fl)), (sy, .inl (cI, 8, .inl (wr fs 8 ((hgt - 1) - 1) (rd fs 8 (hgt - 1)))))]) hD hS hA [0, 1, 2, 3, 4, 5] rfl
    refine va_callv (va_runV (As := [.int (rd fs 8 ((hgt - 1) - 1))]) (rest := []) ⟨hx, hb, hml, hown, hts⟩ (c_Machine_push l D cI cZ tN tG H.size mc ky vy gy ly sy res stp pcn fk fv fa fl (wr fs 8 ((hgt - 1) - 1) (rd fs 8 (hgt - 1))) (((hgt - 1) - 1) + 1) ap (rd fs 8 ((hgt - 1) - 1))) (cwV 1 hts (gd4 k_283 k_285 k_10 k_21 k_286) rfl rfl rfl (by decide +kernel) ⟨Nat.le_of_ble_eq_true rfl, Nat.le_of_ble_eq_true rfl⟩) ⟨MZ_blind, va_recv (q0 := 0) (ci := 3) hE.1 hP rfl rfl, mz_pre hE hZ hS hPc hDc hFc⟩ rfl rfl hl.1 rfl (lv_room (Nat.le_of_ble_eq_true rfl)) d_Machine_move_144 ⟨Nat.zero_le _, Nat.zero_le _⟩) hS (fun q _ h => hFc q h) hFc (fun u t H1 locs ht hvm hw hB hz1 hk1 hS => ?_)
    obtain ⟨hP1, hD1⟩ := hB
    rw [ht] at hP1
    obtain ⟨hP, hD⟩ := va_join (wr := []) (w1 := [(mc, .inr (3, [.int res, .int stp, .int pcn, .ref ky, .ref vy, .ref gy, .ref ly, .ref sy, .int ((((hgt - 1) - 1) + 1) + 1), .int ap])), (ky, .inl (cI, 20, .inl fk)), (vy, .inl (cI, 20, .inl fv)), (gy, .inl (cI, 3, .inl fa)), (ly, .inl (cI, 4, .inl fl)), (sy, .inl (cI, 8, .inl (wr (wr fs 8 ((hgt - 1) - 1) (rd fs 8 (hgt - 1))) 8 (((hgt - 1) - 1) + 1) (rd fs 8 ((hgt - 1) - 1)))))]) hP hD [0, 1, 2, 3, 4, 5] [] rfl rfl (by decide) (by decide) hk1 hFc hP1 hD1
    generalize H1 = H at hP hS ⊢
    have hP : va_P D classes [(mc, .inr (3, [.int res, .int stp, .int pcn, .ref ky, .ref vy, .ref gy, .ref ly, .ref sy, .int ((((hgt - 1) - 1) + 1) + 1), .int ap])), (ky, .inl (cI, 20, .inl fk)), (vy, .inl (cI, 20, .inl fv)), (gy, .inl (cI, 3, .inl fa)), (ly, .inl (cI, 4, .inl fl)), (sy, .inl (cI, 8, .inl (wr (wr fs 8 ((hgt - 1) - 1) (rd fs 8 (hgt - 1))) 8 (((hgt - 1) - 1) + 1) (rd fs 8 ((hgt - 1) - 1)))))] H := hP
    have hD : va_D A [(mc, .inr (3, [.int res, .int stp, .int pcn, .ref ky, .ref vy, .ref gy, .ref ly, .ref sy, .int ((((hgt - 1) - 1) + 1) + 1), .int ap])), (ky, .inl (cI, 20, .inl fk)), (vy, .inl (cI, 20, .inl fv)), (gy, .inl (cI, 3, .inl fa)), (ly, .inl (cI, 4, .inl fl)), (sy, .inl (cI, 8, .inl (wr (wr fs 8 ((hgt - 1) - 1) (rd fs 8 (hgt - 1))) 8 (((hgt - 1) - 1) + 1) (rd fs 8 ((hgt - 1) - 1)))))] := hD
    refine lv_goto (tgt := 174) hx hb d_Machine_move_147 (by decide) ?_
    refine W.vret hx hb hr (fun t ht hW => ⟨⟨(res, stp, pcn, fk, fv, fa, fl, (wr (wr fs 8 ((hgt - 1) - 1) (rd fs 8 (hgt - 1))) 8 (((hgt - 1) - 1) + 1) (rd fs 8 ((hgt - 1) - 1))), ((((hgt - 1) - 1) + 1) + 1), ap), rfl, ?_, ?_⟩, hS.F ht⟩) hS.2.2 d_Machine_move_174
    · rfl
    · exact ⟨by rw [ht]; exact hP.sub [0, 1, 2, 3, 4, 5] rfl, hD.sub [0, 1, 2, 3, 4, 5] (by decide) rfl⟩
  · -- case 6
    have h1 : op = 6 := Int32.toInt_inj.mp (by rw [h1]; decide)
    subst h1
    refine lv_tableIn (tgt := 97) (off := 96) hx hb d_Machine_move_1 (by decide) (by decide) (by decide +kernel) (by decide) ?_
    refine lv_aload_n hx hb d_Machine_move_97 rfl (lv_at hl 0 rfl) ?_
    have hPc := hP.sub (ws' := [(mc, .inr (3, [.int res, .int stp, .int pcn, .ref ky, .ref vy, .ref gy, .ref ly, .ref sy, .int hgt, .int ap])), (ky, .inl (cI, 20, .inl fk)), (vy, .inl (cI, 20, .inl fv)), (gy, .inl (cI, 3, .inl fa)), (ly, .inl (cI, 4, .inl fl)), (sy, .inl (cI, 8, .inl fs))]) [0, 1, 2, 3, 4, 5] rfl
    have hDc := hD.sub (ws' := [(mc, .inr (3, [.int res, .int stp, .int pcn, .ref ky, .ref vy, .ref gy, .ref ly, .ref sy, .int hgt, .int ap])), (ky, .inl (cI, 20, .inl fk)), (vy, .inl (cI, 20, .inl fv)), (gy, .inl (cI, 3, .inl fa)), (ly, .inl (cI, 4, .inl fl)), (sy, .inl (cI, 8, .inl fs))]) [0, 1, 2, 3, 4, 5] (by decide) rfl
    have hFc := va_free (wc := [(mc, .inr (3, [.int res, .int stp, .int pcn, .ref ky, .ref vy, .ref gy, .ref ly, .ref sy, .int hgt, .int ap])), (ky, .inl (cI, 20, .inl fk)), (vy, .inl (cI, 20, .inl fv)), (gy, .inl (cI, 3, .inl fa)), (ly, .inl (cI, 4, .inl fl)), (sy, .inl (cI, 8, .inl fs))]) hD hS hA [0, 1, 2, 3, 4, 5] rfl
    refine va_calli (va_runV (As := []) (rest := []) ⟨hx, hb, hml, hown, hts⟩ (c_Machine_pop l D cI cZ tN tG s.heap.size mc ky vy gy ly sy res stp pcn fk fv fa fl fs hgt ap) (cwV 0 hts (gd4 k_270 k_272 k_7 k_21 k_273) rfl rfl rfl (by decide +kernel) ⟨Nat.le_of_ble_eq_true rfl, Nat.le_of_ble_eq_true rfl⟩) ⟨MZ_blind, va_recv (q0 := 0) (ci := 3) hE.1 hP rfl rfl, mz_pre hE hZ hS hPc hDc hFc⟩ rfl rfl hl.1 rfl (lv_room (Nat.le_of_ble_eq_true rfl)) d_Machine_move_98 ⟨Nat.zero_le _, Nat.zero_le _⟩) hS (fun q _ h => hFc q h) hFc (fun r u t H1 locs ht hvm hw hB hz1 hk1 hS => ?_)
    obtain ⟨hP1, hD1⟩ := hB
    rw [ht] at hP1
    subst hw
    obtain ⟨hP, hD⟩ := va_join (wr := []) (w1 := [(mc, .inr (3, [.int res, .int stp, .int pcn, .ref ky, .ref vy, .ref gy, .ref ly, .ref sy, .int (hgt - 1), .int ap])), (ky, .inl (cI, 20, .inl fk)), (vy, .inl (cI, 20, .inl fv)), (gy, .inl (cI, 3, .inl fa)), (ly, .inl (cI, 4, .inl fl)), (sy, .inl (cI, 8, .inl fs))]) hP hD [0, 1, 2, 3, 4, 5] [] rfl rfl (by decide) (by decide) hk1 hFc hP1 hD1
    generalize H1 = H at hP hS ⊢
    have hP : va_P D classes [(mc, .inr (3, [.int res, .int stp, .int pcn, .ref ky, .ref vy, .ref gy, .ref ly, .ref sy, .int (hgt - 1), .int ap])), (ky, .inl (cI, 20, .inl fk)), (vy, .inl (cI, 20, .inl fv)), (gy, .inl (cI, 3, .inl fa)), (ly, .inl (cI, 4, .inl fl)), (sy, .inl (cI, 8, .inl fs))] H := hP
    have hD : va_D A [(mc, .inr (3, [.int res, .int stp, .int pcn, .ref ky, .ref vy, .ref gy, .ref ly, .ref sy, .int (hgt - 1), .int ap])), (ky, .inl (cI, 20, .inl fk)), (vy, .inl (cI, 20, .inl fv)), (gy, .inl (cI, 3, .inl fa)), (ly, .inl (cI, 4, .inl fl)), (sy, .inl (cI, 8, .inl fs))] := hD
    refine lv_pop hx hb d_Machine_move_101 rfl ?_
    refine lv_goto (tgt := 174) hx hb d_Machine_move_102 (by decide) ?_
    refine W.vret hx hb hr (fun t ht hW => ⟨⟨(res, stp, pcn, fk, fv, fa, fl, fs, (hgt - 1), ap), rfl, ?_, ?_⟩, hS.F ht⟩) hS.2.2 d_Machine_move_174
    · rfl
    · exact ⟨by rw [ht]; exact hP.sub [0, 1, 2, 3, 4, 5] rfl, hD.sub [0, 1, 2, 3, 4, 5] (by decide) rfl⟩
set_option maxHeartbeats 4000000 in
set_option maxRecDepth 100000 in
theorem c_Machine_doOne (l : Launch) (D : va_G) (cI cZ : ClassId) (tN tG : Nat) (hz : Nat) (mc ky vy gy ly sy : Nat) (res stp pcn : Int32) (fk fv fa fl fs : Nat → Int32) (hgt ap : Int32) (op n kd : Int32) : Met l y_Machine_doOne w_Machine_doOne (rmk 3) (va_Pc [.ref mc, .int op, .int n, .int kd] (MZ D cI cZ tN tG [(mc, .inr (3, [.int res, .int stp, .int pcn, .ref ky, .ref vy, .ref gy, .ref ly, .ref sy, .int hgt, .int ap])), (ky, .inl (cI, 20, .inl fk)), (vy, .inl (cI, 20, .inl fv)), (gy, .inl (cI, 3, .inl fa)), (ly, .inl (cI, 4, .inl fl)), (sy, .inl (cI, 8, .inl fs))] hz)) (va_Qi (fun (r : Int32) (u : MS) => (r, u) = m_one op n kd (res, stp, pcn, fk, fv, fa, fl, fs, hgt, ap)) (fun u t => ME D (va_A [(mc, .inr (3, [.int res, .int stp, .int pcn, .ref ky, .ref vy, .ref gy, .ref ly, .ref sy, .int hgt, .int ap])), (ky, .inl (cI, 20, .inl fk)), (vy, .inl (cI, 20, .inl fv)), (gy, .inl (cI, 3, .inl fa)), (ly, .inl (cI, 4, .inl fl)), (sy, .inl (cI, 8, .inl fs))] hz) [(mc, .inr (3, [.int u.1, .int u.2.1, .int u.2.2.1, .ref ky, .ref vy, .ref gy, .ref ly, .ref sy, .int u.2.2.2.2.2.2.2.2.1, .int u.2.2.2.2.2.2.2.2.2])), (ky, .inl (cI, 20, .inl u.2.2.2.1)), (vy, .inl (cI, 20, .inl u.2.2.2.2.1)), (gy, .inl (cI, 3, .inl u.2.2.2.2.2.1)), (ly, .inl (cI, 4, .inl u.2.2.2.2.2.2.1)), (sy, .inl (cI, 8, .inl u.2.2.2.2.2.2.2.1))] t) (va_A [(mc, .inr (3, [.int res, .int stp, .int pcn, .ref ky, .ref vy, .ref gy, .ref ly, .ref sy, .int hgt, .int ap])), (ky, .inl (cI, 20, .inl fk)), (vy, .inl (cI, 20, .inl fv)), (gy, .inl (cI, 3, .inl fa)), (ly, .inl (cI, 4, .inl fl)), (sy, .inl (cI, 8, .inl fs))] hz)) 0 0 (va_A [(mc, .inr (3, [.int res, .int stp, .int pcn, .ref ky, .ref vy, .ref gy, .ref ly, .ref sy, .int hgt, .int ap])), (ky, .inl (cI, 20, .inl fk)), (vy, .inl (cI, 20, .inl fv)), (gy, .inl (cI, 3, .inl fa)), (ly, .inl (cI, 4, .inl fl)), (sy, .inl (cI, 8, .inl fs))] hz) := by
  refine Met.ofW (cc := b_Machine_doOne) (maxL := 4) (ret := (some .int)) (by decide) rfl ?_
  intro p e s m args below meth c s₁ B hml hv
  obtain ⟨rfl, hsz, hP, hE, hD0, hZ⟩ := hv
  have hx := B.exec
  have hb := B.bytes
  have hr := B.returns
  have hts : ∀ w ∈ gW, w.before _ s = true := fun w h => atoms_spec (ws := w_Machine_doOne) B.pre w (List.mem_cons_of_mem _ h)
  have hown : s.vm.findClass R_Machine = some m.cls := findClass_of_methodNamed B.named
  have hlocks := B.notSynchronized
  subst hsz
  have hD := hD0.self (sz := s.heap.size)
  have hA : ∀ q : Nat, s.heap.size ≤ q → va_A [(mc, .inr (3, [.int res, .int stp, .int pcn, .ref ky, .ref vy, .ref gy, .ref ly, .ref sy, .int hgt, .int ap])), (ky, .inl (cI, 20, .inl fk)), (vy, .inl (cI, 20, .inl fv)), (gy, .inl (cI, 3, .inl fa)), (ly, .inl (cI, 4, .inl fl)), (sy, .inl (cI, 8, .inl fs))] s.heap.size q := fun q h => Or.inr h
  generalize va_A [(mc, .inr (3, [.int res, .int stp, .int pcn, .ref ky, .ref vy, .ref gy, .ref ly, .ref sy, .int hgt, .int ap])), (ky, .inl (cI, 20, .inl fk)), (vy, .inl (cI, 20, .inl fv)), (gy, .inl (cI, 3, .inl fa)), (ly, .inl (cI, 4, .inl fl)), (sy, .inl (cI, 8, .inl fs))] s.heap.size = A at hD hA hZ ⊢
  have hS : va_S A s.heap s.heap [] := va_S.rf
  have hP : va_P D classes [(mc, .inr (3, [.int res, .int stp, .int pcn, .ref ky, .ref vy, .ref gy, .ref ly, .ref sy, .int hgt, .int ap])), (ky, .inl (cI, 20, .inl fk)), (vy, .inl (cI, 20, .inl fv)), (gy, .inl (cI, 3, .inl fa)), (ly, .inl (cI, 4, .inl fl)), (sy, .inl (cI, 8, .inl fs))] s.heap := hP
  have hD : va_D A [(mc, .inr (3, [.int res, .int stp, .int pcn, .ref ky, .ref vy, .ref gy, .ref ly, .ref sy, .int hgt, .int ap])), (ky, .inl (cI, 20, .inl fk)), (vy, .inl (cI, 20, .inl fv)), (gy, .inl (cI, 3, .inl fa)), (ly, .inl (cI, 4, .inl fl)), (sy, .inl (cI, 8, .inl fs))] := hD
  have hl := lv_entry ([.ref mc, .int op, .int n, .int kd]) (n := 4) (Nat.le_of_ble_eq_true rfl)
  rw [lg_entry_eq]
  generalize (lg_sl ([.ref mc, .int op, .int n, .int kd]) ++ List.replicate (4 - (lg_sl ([.ref mc, .int op, .int n, .int kd])).length) Slot.unset).toArray = ls at hl ⊢
  have hl : lv_has ls 4 [(0, .ref mc), (1, .int op), (2, .int n), (3, .int kd)] := hl
  refine lv_aload_n hx hb d_Machine_doOne_0 rfl (lv_at hl 0 rfl) ?_
  refine lv_dup hx hb d_Machine_doOne_1 rfl ?_
  refine va_get (D := D) (ci := 3) (v := .int ap) (C := R_Machine) (T := F_Machine) (N := 10) hx hb hts in_Machine hown hE.1 hP 0 rfl rfl 9 (by decide) (hts _ k_97) (fun _ h9 => h9) rfl d_Machine_doOne_2 ?_
  refine lv_iconst (v := 1) hx hb d_Machine_doOne_5 (by decide) ?_
  refine lv_iadd hx hb d_Machine_doOne_6 ?_
  refine va_put (D := D) (ci := 3) (v := .int (ap + 1)) (ty := .int) (C := R_Machine) (T := F_Machine) (N := 10) hx hb hts in_Machine t_Machine t_Machine_ok n_Machine hown hE.1 hP hD hS 0 rfl rfl 9 (by decide) (hts _ k_97) (fun _ h9 => h9) rfl (by decide +kernel) rfl rfl (Nat.le_of_ble_eq_true rfl) d_Machine_doOne_7 (fun H locs hP hD hS => ?_)
  have hP : va_P D classes [(mc, .inr (3, [.int res, .int stp, .int pcn, .ref ky, .ref vy, .ref gy, .ref ly, .ref sy, .int hgt, .int (ap + 1)])), (ky, .inl (cI, 20, .inl fk)), (vy, .inl (cI, 20, .inl fv)), (gy, .inl (cI, 3, .inl fa)), (ly, .inl (cI, 4, .inl fl)), (sy, .inl (cI, 8, .inl fs))] H := hP
  have hD : va_D A [(mc, .inr (3, [.int res, .int stp, .int pcn, .ref ky, .ref vy, .ref gy, .ref ly, .ref sy, .int hgt, .int (ap + 1)])), (ky, .inl (cI, 20, .inl fk)), (vy, .inl (cI, 20, .inl fv)), (gy, .inl (cI, 3, .inl fa)), (ly, .inl (cI, 4, .inl fl)), (sy, .inl (cI, 8, .inl fs))] := hD
  refine lv_iload_n hx hb d_Machine_doOne_10 rfl (lv_at hl 1 rfl) ?_
  rcases (by omega : (Int32.toInt op < 14 ∨ 18 < Int32.toInt op) ∨ Int32.toInt op = 14 ∨ Int32.toInt op = 15 ∨ Int32.toInt op = 16 ∨ Int32.toInt op = 17 ∨ Int32.toInt op = 18) with h1 | h1 | h1 | h1 | h1 | h1
  · -- default
    refine lv_tableOut (tgt := 90) hx hb d_Machine_doOne_11 h1 (by decide) ?_
    refine lv_aload_n hx hb d_Machine_doOne_90 rfl (lv_at hl 0 rfl) ?_
    refine lv_iload_n hx hb d_Machine_doOne_91 rfl (lv_at hl 1 rfl) ?_
    refine lv_iload_n hx hb d_Machine_doOne_92 rfl (lv_at hl 2 rfl) ?_
    have hPc := hP.sub (ws' := [(mc, .inr (3, [.int res, .int stp, .int pcn, .ref ky, .ref vy, .ref gy, .ref ly, .ref sy, .int hgt, .int (ap + 1)])), (ky, .inl (cI, 20, .inl fk)), (vy, .inl (cI, 20, .inl fv)), (gy, .inl (cI, 3, .inl fa)), (ly, .inl (cI, 4, .inl fl)), (sy, .inl (cI, 8, .inl fs))]) [0, 1, 2, 3, 4, 5] rfl
    have hDc := hD.sub (ws' := [(mc, .inr (3, [.int res, .int stp, .int pcn, .ref ky, .ref vy, .ref gy, .ref ly, .ref sy, .int hgt, .int (ap + 1)])), (ky, .inl (cI, 20, .inl fk)), (vy, .inl (cI, 20, .inl fv)), (gy, .inl (cI, 3, .inl fa)), (ly, .inl (cI, 4, .inl fl)), (sy, .inl (cI, 8, .inl fs))]) [0, 1, 2, 3, 4, 5] (by decide) rfl
    have hFc := va_free (wc := [(mc, .inr (3, [.int res, .int stp, .int pcn, .ref ky, .ref vy, .ref gy, .ref ly, .ref sy, .int hgt, .int (ap + 1)])), (ky, .inl (cI, 20, .inl fk)), (vy, .inl (cI, 20, .inl fv)), (gy, .inl (cI, 3, .inl fa)), (ly, .inl (cI, 4, .inl fl)), (sy, .inl (cI, 8, .inl fs))]) hD hS hA [0, 1, 2, 3, 4, 5] rfl
    refine va_callv (va_runV (As := [.int op, .int n]) (rest := []) ⟨hx, hb, hml, hown, hts⟩ (c_Machine_move l D cI cZ tN tG H.size mc ky vy gy ly sy res stp pcn fk fv fa fl fs hgt (ap + 1) op n) (cwV 2 hts (gd4 k_279 k_281 k_9 k_21 k_282) rfl rfl rfl (by decide +kernel) ⟨Nat.le_of_ble_eq_true rfl, Nat.le_of_ble_eq_true rfl⟩) ⟨MZ_blind, va_recv (q0 := 0) (ci := 3) hE.1 hP rfl rfl, mz_pre hE hZ hS hPc hDc hFc⟩ rfl rfl hl.1 rfl (lv_room (Nat.le_of_ble_eq_true rfl)) d_Machine_doOne_93 ⟨Nat.zero_le _, Nat.zero_le _⟩) hS (fun q _ h => hFc q h) hFc (fun u t H1 locs ht hvm hw hB hz1 hk1 hS => ?_)
    obtain ⟨hP1, hD1⟩ := hB
    rw [ht] at hP1
    subst hw
    obtain ⟨hP, hD⟩ := va_join (wr := []) (w1 := [(mc, .inr (3, [.int ((m_move op n (res, stp, pcn, fk, fv, fa, fl, fs, hgt, (ap + 1))).1), .int ((m_move op n (res, stp, pcn, fk, fv, fa, fl, fs, hgt, (ap + 1))).2.1), .int ((m_move op n (res, stp, pcn, fk, fv, fa, fl, fs, hgt, (ap + 1))).2.2.1), .ref ky, .ref vy, .ref gy, .ref ly, .ref sy, .int ((m_move op n (res, stp, pcn, fk, fv, fa, fl, fs, hgt, (ap + 1))).2.2.2.2.2.2.2.2.1), .int ((m_move op n (res, stp, pcn, fk, fv, fa, fl, fs, hgt, (ap + 1))).2.2.2.2.2.2.2.2.2)])), (ky, .inl (cI, 20, .inl ((m_move op n (res, stp, pcn, fk, fv, fa, fl, fs, hgt, (ap + 1))).2.2.2.1))), (vy, .inl (cI, 20, .inl ((m_move op n (res, stp, pcn, fk, fv, fa, fl, fs, hgt, (ap + 1))).2.2.2.2.1))), (gy, .inl (cI, 3, .inl ((m_move op n (res, stp, pcn, fk, fv, fa, fl, fs, hgt, (ap + 1))).2.2.2.2.2.1))), (ly, .inl (cI, 4, .inl ((m_move op n (res, stp, pcn, fk, fv, fa, fl, fs, hgt, (ap + 1))).2.2.2.2.2.2.1))), (sy, .inl (cI, 8, .inl ((m_move op n (res, stp, pcn, fk, fv, fa, fl, fs, hgt, (ap + 1))).2.2.2.2.2.2.2.1)))]) hP hD [0, 1, 2, 3, 4, 5] [] rfl rfl (by decide) (by decide) hk1 hFc hP1 hD1
    generalize H1 = H at hP hS ⊢
    have hP : va_P D classes [(mc, .inr (3, [.int ((m_move op n (res, stp, pcn, fk, fv, fa, fl, fs, hgt, (ap + 1))).1), .int ((m_move op n (res, stp, pcn, fk, fv, fa, fl, fs, hgt, (ap + 1))).2.1), .int ((m_move op n (res, stp, pcn, fk, fv, fa, fl, fs, hgt, (ap + 1))).2.2.1), .ref ky, .ref vy, .ref gy, .ref ly, .ref sy, .int ((m_move op n (res, stp, pcn, fk, fv, fa, fl, fs, hgt, (ap + 1))).2.2.2.2.2.2.2.2.1), .int ((m_move op n (res, stp, pcn, fk, fv, fa, fl, fs, hgt, (ap + 1))).2.2.2.2.2.2.2.2.2)])), (ky, .inl (cI, 20, .inl ((m_move op n (res, stp, pcn, fk, fv, fa, fl, fs, hgt, (ap + 1))).2.2.2.1))), (vy, .inl (cI, 20, .inl ((m_move op n (res, stp, pcn, fk, fv, fa, fl, fs, hgt, (ap + 1))).2.2.2.2.1))), (gy, .inl (cI, 3, .inl ((m_move op n (res, stp, pcn, fk, fv, fa, fl, fs, hgt, (ap + 1))).2.2.2.2.2.1))), (ly, .inl (cI, 4, .inl ((m_move op n (res, stp, pcn, fk, fv, fa, fl, fs, hgt, (ap + 1))).2.2.2.2.2.2.1))), (sy, .inl (cI, 8, .inl ((m_move op n (res, stp, pcn, fk, fv, fa, fl, fs, hgt, (ap + 1))).2.2.2.2.2.2.2.1)))] H := hP
    have hD : va_D A [(mc, .inr (3, [.int ((m_move op n (res, stp, pcn, fk, fv, fa, fl, fs, hgt, (ap + 1))).1), .int ((m_move op n (res, stp, pcn, fk, fv, fa, fl, fs, hgt, (ap + 1))).2.1), .int ((m_move op n (res, stp, pcn, fk, fv, fa, fl, fs, hgt, (ap + 1))).2.2.1), .ref ky, .ref vy, .ref gy, .ref ly, .ref sy, .int ((m_move op n (res, stp, pcn, fk, fv, fa, fl, fs, hgt, (ap + 1))).2.2.2.2.2.2.2.2.1), .int ((m_move op n (res, stp, pcn, fk, fv, fa, fl, fs, hgt, (ap + 1))).2.2.2.2.2.2.2.2.2)])), (ky, .inl (cI, 20, .inl ((m_move op n (res, stp, pcn, fk, fv, fa, fl, fs, hgt, (ap + 1))).2.2.2.1))), (vy, .inl (cI, 20, .inl ((m_move op n (res, stp, pcn, fk, fv, fa, fl, fs, hgt, (ap + 1))).2.2.2.2.1))), (gy, .inl (cI, 3, .inl ((m_move op n (res, stp, pcn, fk, fv, fa, fl, fs, hgt, (ap + 1))).2.2.2.2.2.1))), (ly, .inl (cI, 4, .inl ((m_move op n (res, stp, pcn, fk, fv, fa, fl, fs, hgt, (ap + 1))).2.2.2.2.2.2.1))), (sy, .inl (cI, 8, .inl ((m_move op n (res, stp, pcn, fk, fv, fa, fl, fs, hgt, (ap + 1))).2.2.2.2.2.2.2.1)))] := hD
    refine lv_iconst (v := 3) hx hb d_Machine_doOne_96 (by decide) ?_
    refine W.iret hx hb hr (fun t ht hW => ⟨⟨3, (m_move op n (res, stp, pcn, fk, fv, fa, fl, fs, hgt, (ap + 1))), rfl, ?_, ?_⟩, hS.F ht⟩) hS.2.2 d_Machine_doOne_97
    · (have g14 := sw_ne (k := 14) h1 (by decide); have g15 := sw_ne (k := 15) h1 (by decide); have g16 := sw_ne (k := 16) h1 (by decide); have g17 := sw_ne (k := 17) h1 (by decide); have g18 := sw_ne (k := 18) h1 (by decide); simp only [m_one, g14, g15, g16, g17, g18, if_true, if_false, eq_self, not_true_eq_false, not_false_eq_true, ne_eq])
    · exact ⟨by rw [ht]; exact hP.sub [0, 1, 2, 3, 4, 5] rfl, hD.sub [0, 1, 2, 3, 4, 5] (by decide) rfl⟩
  · -- case 14
    have h1 : op = 14 := Int32.toInt_inj.mp (by rw [h1]; decide)
    subst h1
    refine lv_tableIn (tgt := 44) (off := 33) hx hb d_Machine_doOne_11 (by decide) (by decide) (by decide +kernel) (by decide) ?_
    refine lv_aload_n hx hb d_Machine_doOne_44 rfl (lv_at hl 0 rfl) ?_
    refine lv_iload_n hx hb d_Machine_doOne_45 rfl (lv_at hl 2 rfl) ?_
    refine va_put (D := D) (ci := 3) (v := .int n) (ty := .int) (C := R_Machine) (T := F_Machine) (N := 10) hx hb hts in_Machine t_Machine t_Machine_ok n_Machine hown hE.1 hP hD hS 0 rfl rfl 9 (by decide) (hts _ k_97) (fun _ h9 => h9) rfl (by decide +kernel) rfl rfl (Nat.le_of_ble_eq_true rfl) d_Machine_doOne_46 (fun H locs hP hD hS => ?_)
    have hP : va_P D classes [(mc, .inr (3, [.int res, .int stp, .int pcn, .ref ky, .ref vy, .ref gy, .ref ly, .ref sy, .int hgt, .int n])), (ky, .inl (cI, 20, .inl fk)), (vy, .inl (cI, 20, .inl fv)), (gy, .inl (cI, 3, .inl fa)), (ly, .inl (cI, 4, .inl fl)), (sy, .inl (cI, 8, .inl fs))] H := hP
    have hD : va_D A [(mc, .inr (3, [.int res, .int stp, .int pcn, .ref ky, .ref vy, .ref gy, .ref ly, .ref sy, .int hgt, .int n])), (ky, .inl (cI, 20, .inl fk)), (vy, .inl (cI, 20, .inl fv)), (gy, .inl (cI, 3, .inl fa)), (ly, .inl (cI, 4, .inl fl)), (sy, .inl (cI, 8, .inl fs))] := hD
    refine lv_iconst (v := 3) hx hb d_Machine_doOne_49 (by decide) ?_
    refine W.iret hx hb hr (fun t ht hW => ⟨⟨3, (res, stp, pcn, fk, fv, fa, fl, fs, hgt, n), rfl, ?_, ?_⟩, hS.F ht⟩) hS.2.2 d_Machine_doOne_50
    · rfl
    · exact ⟨by rw [ht]; exact hP.sub [0, 1, 2, 3, 4, 5] rfl, hD.sub [0, 1, 2, 3, 4, 5] (by decide) rfl⟩
  · -- case 15
    have h1 : op = 15 := Int32.toInt_inj.mp (by rw [h1]; decide)
    subst h1
    refine lv_tableIn (tgt := 51) (off := 40) hx hb d_Machine_doOne_11 (by decide) (by decide) (by decide +kernel) (by decide) ?_
    refine lv_aload_n hx hb d_Machine_doOne_51 rfl (lv_at hl 0 rfl) ?_
    have hPc := hP.sub (ws' := [(mc, .inr (3, [.int res, .int stp, .int pcn, .ref ky, .ref vy, .ref gy, .ref ly, .ref sy, .int hgt, .int (ap + 1)])), (ky, .inl (cI, 20, .inl fk)), (vy, .inl (cI, 20, .inl fv)), (gy, .inl (cI, 3, .inl fa)), (ly, .inl (cI, 4, .inl fl)), (sy, .inl (cI, 8, .inl fs))]) [0, 1, 2, 3, 4, 5] rfl
    have hDc := hD.sub (ws' := [(mc, .inr (3, [.int res, .int stp, .int pcn, .ref ky, .ref vy, .ref gy, .ref ly, .ref sy, .int hgt, .int (ap + 1)])), (ky, .inl (cI, 20, .inl fk)), (vy, .inl (cI, 20, .inl fv)), (gy, .inl (cI, 3, .inl fa)), (ly, .inl (cI, 4, .inl fl)), (sy, .inl (cI, 8, .inl fs))]) [0, 1, 2, 3, 4, 5] (by decide) rfl
    have hFc := va_free (wc := [(mc, .inr (3, [.int res, .int stp, .int pcn, .ref ky, .ref vy, .ref gy, .ref ly, .ref sy, .int hgt, .int (ap + 1)])), (ky, .inl (cI, 20, .inl fk)), (vy, .inl (cI, 20, .inl fv)), (gy, .inl (cI, 3, .inl fa)), (ly, .inl (cI, 4, .inl fl)), (sy, .inl (cI, 8, .inl fs))]) hD hS hA [0, 1, 2, 3, 4, 5] rfl
    refine va_calli (va_runV (As := []) (rest := []) ⟨hx, hb, hml, hown, hts⟩ (c_Machine_pop l D cI cZ tN tG H.size mc ky vy gy ly sy res stp pcn fk fv fa fl fs hgt (ap + 1)) (cwV 0 hts (gd4 k_270 k_272 k_7 k_21 k_273) rfl rfl rfl (by decide +kernel) ⟨Nat.le_of_ble_eq_true rfl, Nat.le_of_ble_eq_true rfl⟩) ⟨MZ_blind, va_recv (q0 := 0) (ci := 3) hE.1 hP rfl rfl, mz_pre hE hZ hS hPc hDc hFc⟩ rfl rfl hl.1 rfl (lv_room (Nat.le_of_ble_eq_true rfl)) d_Machine_doOne_52 ⟨Nat.zero_le _, Nat.zero_le _⟩) hS (fun q _ h => hFc q h) hFc (fun r u t H1 locs ht hvm hw hB hz1 hk1 hS => ?_)
    obtain ⟨hP1, hD1⟩ := hB
    rw [ht] at hP1
    subst hw
    obtain ⟨hP, hD⟩ := va_join (wr := []) (w1 := [(mc, .inr (3, [.int res, .int stp, .int pcn, .ref ky, .ref vy, .ref gy, .ref ly, .ref sy, .int (hgt - 1), .int (ap + 1)])), (ky, .inl (cI, 20, .inl fk)), (vy, .inl (cI, 20, .inl fv)), (gy, .inl (cI, 3, .inl fa)), (ly, .inl (cI, 4, .inl fl)), (sy, .inl (cI, 8, .inl fs))]) hP hD [0, 1, 2, 3, 4, 5] [] rfl rfl (by decide) (by decide) hk1 hFc hP1 hD1
    generalize H1 = H at hP hS ⊢
    have hP : va_P D classes [(mc, .inr (3, [.int res, .int stp, .int pcn, .ref ky, .ref vy, .ref gy, .ref ly, .ref sy, .int (hgt - 1), .int (ap + 1)])), (ky, .inl (cI, 20, .inl fk)), (vy, .inl (cI, 20, .inl fv)), (gy, .inl (cI, 3, .inl fa)), (ly, .inl (cI, 4, .inl fl)), (sy, .inl (cI, 8, .inl fs))] H := hP
    have hD : va_D A [(mc, .inr (3, [.int res, .int stp, .int pcn, .ref ky, .ref vy, .ref gy, .ref ly, .ref sy, .int (hgt - 1), .int (ap + 1)])), (ky, .inl (cI, 20, .inl fk)), (vy, .inl (cI, 20, .inl fv)), (gy, .inl (cI, 3, .inl fa)), (ly, .inl (cI, 4, .inl fl)), (sy, .inl (cI, 8, .inl fs))] := hD
    refine lv_if_ne (tgt := 63) hx hb d_Machine_doOne_55 (by decide) (fun h2 => ?_) (fun h2 => ?_)
    · -- ¬ (rd fs 8 (hgt - 1)) = 0
      refine lv_iconst (v := 3) hx hb d_Machine_doOne_63 (by decide) ?_
      refine W.iret hx hb hr (fun t ht hW => ⟨⟨3, (res, stp, pcn, fk, fv, fa, fl, fs, (hgt - 1), (ap + 1)), rfl, ?_, ?_⟩, hS.F ht⟩) hS.2.2 d_Machine_doOne_64
      · (rw [m1_15]; simp only [h2, if_true, if_false, eq_self, not_true_eq_false, not_false_eq_true, ne_eq])
      · exact ⟨by rw [ht]; exact hP.sub [0, 1, 2, 3, 4, 5] rfl, hD.sub [0, 1, 2, 3, 4, 5] (by decide) rfl⟩
    · -- (rd fs 8 (hgt - 1)) = 0
      refine lv_aload_n hx hb d_Machine_doOne_58 rfl (lv_at hl 0 rfl) ?_
      refine lv_iload_n hx hb d_Machine_doOne_59 rfl (lv_at hl 2 rfl) ?_
      refine va_put (D := D) (ci := 3) (v := .int n) (ty := .int) (C := R_Machine) (T := F_Machine) (N := 10) hx hb hts in_Machine t_Machine t_Machine_ok n_Machine hown hE.1 hP hD hS 0 rfl rfl 9 (by decide) (hts _ k_97) (fun _ h9 => h9) rfl (by decide +kernel) rfl rfl (Nat.le_of_ble_eq_true rfl) d_Machine_doOne_60 (fun H locs hP hD hS => ?_)
      have hP : va_P D classes [(mc, .inr (3, [.int res, .int stp, .int pcn, .ref ky, .ref vy, .ref gy, .ref ly, .ref sy, .int (hgt - 1), .int n])), (ky, .inl (cI, 20, .inl fk)), (vy, .inl (cI, 20, .inl fv)), (gy, .inl (cI, 3, .inl fa)), (ly, .inl (cI, 4, .inl fl)), (sy, .inl (cI, 8, .inl fs))] H := hP
      have hD : va_D A [(mc, .inr (3, [.int res, .int stp, .int pcn, .ref ky, .ref vy, .ref gy, .ref ly, .ref sy, .int (hgt - 1), .int n])), (ky, .inl (cI, 20, .inl fk)), (vy, .inl (cI, 20, .inl fv)), (gy, .inl (cI, 3, .inl fa)), (ly, .inl (cI, 4, .inl fl)), (sy, .inl (cI, 8, .inl fs))] := hD
      refine lv_iconst (v := 3) hx hb d_Machine_doOne_63 (by decide) ?_
      refine W.iret hx hb hr (fun t ht hW => ⟨⟨3, (res, stp, pcn, fk, fv, fa, fl, fs, (hgt - 1), n), rfl, ?_, ?_⟩, hS.F ht⟩) hS.2.2 d_Machine_doOne_64
      · (rw [m1_15]; simp only [h2, if_true, if_false, eq_self, not_true_eq_false, not_false_eq_true, ne_eq])
      · exact ⟨by rw [ht]; exact hP.sub [0, 1, 2, 3, 4, 5] rfl, hD.sub [0, 1, 2, 3, 4, 5] (by decide) rfl⟩
  · -- case 16
    have h1 : op = 16 := Int32.toInt_inj.mp (by rw [h1]; decide)
    subst h1
    refine lv_tableIn (tgt := 65) (off := 54) hx hb d_Machine_doOne_11 (by decide) (by decide) (by decide +kernel) (by decide) ?_
    refine lv_aload_n hx hb d_Machine_doOne_65 rfl (lv_at hl 0 rfl) ?_
    have hPc := hP.sub (ws' := [(mc, .inr (3, [.int res, .int stp, .int pcn, .ref ky, .ref vy, .ref gy, .ref ly, .ref sy, .int hgt, .int (ap + 1)])), (ky, .inl (cI, 20, .inl fk)), (vy, .inl (cI, 20, .inl fv)), (gy, .inl (cI, 3, .inl fa)), (ly, .inl (cI, 4, .inl fl)), (sy, .inl (cI, 8, .inl fs))]) [0, 1, 2, 3, 4, 5] rfl
    have hDc := hD.sub (ws' := [(mc, .inr (3, [.int res, .int stp, .int pcn, .ref ky, .ref vy, .ref gy, .ref ly, .ref sy, .int hgt, .int (ap + 1)])), (ky, .inl (cI, 20, .inl fk)), (vy, .inl (cI, 20, .inl fv)), (gy, .inl (cI, 3, .inl fa)), (ly, .inl (cI, 4, .inl fl)), (sy, .inl (cI, 8, .inl fs))]) [0, 1, 2, 3, 4, 5] (by decide) rfl
    have hFc := va_free (wc := [(mc, .inr (3, [.int res, .int stp, .int pcn, .ref ky, .ref vy, .ref gy, .ref ly, .ref sy, .int hgt, .int (ap + 1)])), (ky, .inl (cI, 20, .inl fk)), (vy, .inl (cI, 20, .inl fv)), (gy, .inl (cI, 3, .inl fa)), (ly, .inl (cI, 4, .inl fl)), (sy, .inl (cI, 8, .inl fs))]) hD hS hA [0, 1, 2, 3, 4, 5] rfl
    refine va_calli (va_runV (As := []) (rest := []) ⟨hx, hb, hml, hown, hts⟩ (c_Machine_emit l D cI cZ tN tG H.size mc ky vy gy ly sy res stp pcn fk fv fa fl fs hgt (ap + 1)) (cwV 0 hts (gd4 k_275 k_277 k_8 k_21 k_278) rfl rfl rfl (by decide +kernel) ⟨Nat.le_of_ble_eq_true rfl, Nat.le_of_ble_eq_true rfl⟩) ⟨MZ_blind, va_recv (q0 := 0) (ci := 3) hE.1 hP rfl rfl, mz_pre hE hZ hS hPc hDc hFc⟩ rfl rfl hl.1 rfl (lv_room (Nat.le_of_ble_eq_true rfl)) d_Machine_doOne_66 ⟨Nat.zero_le _, Nat.zero_le _⟩) hS (fun q _ h => hFc q h) hFc (fun r u t H1 locs ht hvm hw hB hz1 hk1 hS => ?_)
    obtain ⟨hP1, hD1⟩ := hB
    rw [ht] at hP1
    have hr1 := congrArg Prod.fst hw
    have hu1 := congrArg Prod.snd hw
    dsimp only at hr1 hu1
    subst hr1
    subst hu1
    obtain ⟨hP, hD⟩ := va_join (wr := []) (w1 := [(mc, .inr (3, [.int ((m_emit (res, stp, pcn, fk, fv, fa, fl, fs, hgt, (ap + 1))).2.1), .int ((m_emit (res, stp, pcn, fk, fv, fa, fl, fs, hgt, (ap + 1))).2.2.1), .int ((m_emit (res, stp, pcn, fk, fv, fa, fl, fs, hgt, (ap + 1))).2.2.2.1), .ref ky, .ref vy, .ref gy, .ref ly, .ref sy, .int ((m_emit (res, stp, pcn, fk, fv, fa, fl, fs, hgt, (ap + 1))).2.2.2.2.2.2.2.2.2.1), .int ((m_emit (res, stp, pcn, fk, fv, fa, fl, fs, hgt, (ap + 1))).2.2.2.2.2.2.2.2.2.2)])), (ky, .inl (cI, 20, .inl ((m_emit (res, stp, pcn, fk, fv, fa, fl, fs, hgt, (ap + 1))).2.2.2.2.1))), (vy, .inl (cI, 20, .inl ((m_emit (res, stp, pcn, fk, fv, fa, fl, fs, hgt, (ap + 1))).2.2.2.2.2.1))), (gy, .inl (cI, 3, .inl ((m_emit (res, stp, pcn, fk, fv, fa, fl, fs, hgt, (ap + 1))).2.2.2.2.2.2.1))), (ly, .inl (cI, 4, .inl ((m_emit (res, stp, pcn, fk, fv, fa, fl, fs, hgt, (ap + 1))).2.2.2.2.2.2.2.1))), (sy, .inl (cI, 8, .inl ((m_emit (res, stp, pcn, fk, fv, fa, fl, fs, hgt, (ap + 1))).2.2.2.2.2.2.2.2.1)))]) hP hD [0, 1, 2, 3, 4, 5] [] rfl rfl (by decide) (by decide) hk1 hFc hP1 hD1
    generalize H1 = H at hP hS ⊢
    have hP : va_P D classes [(mc, .inr (3, [.int ((m_emit (res, stp, pcn, fk, fv, fa, fl, fs, hgt, (ap + 1))).2.1), .int ((m_emit (res, stp, pcn, fk, fv, fa, fl, fs, hgt, (ap + 1))).2.2.1), .int ((m_emit (res, stp, pcn, fk, fv, fa, fl, fs, hgt, (ap + 1))).2.2.2.1), .ref ky, .ref vy, .ref gy, .ref ly, .ref sy, .int ((m_emit (res, stp, pcn, fk, fv, fa, fl, fs, hgt, (ap + 1))).2.2.2.2.2.2.2.2.2.1), .int ((m_emit (res, stp, pcn, fk, fv, fa, fl, fs, hgt, (ap + 1))).2.2.2.2.2.2.2.2.2.2)])), (ky, .inl (cI, 20, .inl ((m_emit (res, stp, pcn, fk, fv, fa, fl, fs, hgt, (ap + 1))).2.2.2.2.1))), (vy, .inl (cI, 20, .inl ((m_emit (res, stp, pcn, fk, fv, fa, fl, fs, hgt, (ap + 1))).2.2.2.2.2.1))), (gy, .inl (cI, 3, .inl ((m_emit (res, stp, pcn, fk, fv, fa, fl, fs, hgt, (ap + 1))).2.2.2.2.2.2.1))), (ly, .inl (cI, 4, .inl ((m_emit (res, stp, pcn, fk, fv, fa, fl, fs, hgt, (ap + 1))).2.2.2.2.2.2.2.1))), (sy, .inl (cI, 8, .inl ((m_emit (res, stp, pcn, fk, fv, fa, fl, fs, hgt, (ap + 1))).2.2.2.2.2.2.2.2.1)))] H := hP
    have hD : va_D A [(mc, .inr (3, [.int ((m_emit (res, stp, pcn, fk, fv, fa, fl, fs, hgt, (ap + 1))).2.1), .int ((m_emit (res, stp, pcn, fk, fv, fa, fl, fs, hgt, (ap + 1))).2.2.1), .int ((m_emit (res, stp, pcn, fk, fv, fa, fl, fs, hgt, (ap + 1))).2.2.2.1), .ref ky, .ref vy, .ref gy, .ref ly, .ref sy, .int ((m_emit (res, stp, pcn, fk, fv, fa, fl, fs, hgt, (ap + 1))).2.2.2.2.2.2.2.2.2.1), .int ((m_emit (res, stp, pcn, fk, fv, fa, fl, fs, hgt, (ap + 1))).2.2.2.2.2.2.2.2.2.2)])), (ky, .inl (cI, 20, .inl ((m_emit (res, stp, pcn, fk, fv, fa, fl, fs, hgt, (ap + 1))).2.2.2.2.1))), (vy, .inl (cI, 20, .inl ((m_emit (res, stp, pcn, fk, fv, fa, fl, fs, hgt, (ap + 1))).2.2.2.2.2.1))), (gy, .inl (cI, 3, .inl ((m_emit (res, stp, pcn, fk, fv, fa, fl, fs, hgt, (ap + 1))).2.2.2.2.2.2.1))), (ly, .inl (cI, 4, .inl ((m_emit (res, stp, pcn, fk, fv, fa, fl, fs, hgt, (ap + 1))).2.2.2.2.2.2.2.1))), (sy, .inl (cI, 8, .inl ((m_emit (res, stp, pcn, fk, fv, fa, fl, fs, hgt, (ap + 1))).2.2.2.2.2.2.2.2.1)))] := hD
    refine W.iret hx hb hr (fun t ht hW => ⟨⟨(m_emit (res, stp, pcn, fk, fv, fa, fl, fs, hgt, (ap + 1))).1, ((m_emit (res, stp, pcn, fk, fv, fa, fl, fs, hgt, (ap + 1))).2.1, (m_emit (res, stp, pcn, fk, fv, fa, fl, fs, hgt, (ap + 1))).2.2.1, (m_emit (res, stp, pcn, fk, fv, fa, fl, fs, hgt, (ap + 1))).2.2.2.1, (m_emit (res, stp, pcn, fk, fv, fa, fl, fs, hgt, (ap + 1))).2.2.2.2.1, (m_emit (res, stp, pcn, fk, fv, fa, fl, fs, hgt, (ap + 1))).2.2.2.2.2.1, (m_emit (res, stp, pcn, fk, fv, fa, fl, fs, hgt, (ap + 1))).2.2.2.2.2.2.1, (m_emit (res, stp, pcn, fk, fv, fa, fl, fs, hgt, (ap + 1))).2.2.2.2.2.2.2.1, (m_emit (res, stp, pcn, fk, fv, fa, fl, fs, hgt, (ap + 1))).2.2.2.2.2.2.2.2.1, (m_emit (res, stp, pcn, fk, fv, fa, fl, fs, hgt, (ap + 1))).2.2.2.2.2.2.2.2.2.1, (m_emit (res, stp, pcn, fk, fv, fa, fl, fs, hgt, (ap + 1))).2.2.2.2.2.2.2.2.2.2), rfl, ?_, ?_⟩, hS.F ht⟩) hS.2.2 d_Machine_doOne_69
    · rfl
    · exact ⟨by rw [ht]; exact hP.sub [0, 1, 2, 3, 4, 5] rfl, hD.sub [0, 1, 2, 3, 4, 5] (by decide) rfl⟩
  · -- case 17
    have h1 : op = 17 := Int32.toInt_inj.mp (by rw [h1]; decide)
    subst h1
    refine lv_tableIn (tgt := 70) (off := 59) hx hb d_Machine_doOne_11 (by decide) (by decide) (by decide +kernel) (by decide) ?_
    refine lv_aload_n hx hb d_Machine_doOne_70 rfl (lv_at hl 0 rfl) ?_
    refine lv_iload_n hx hb d_Machine_doOne_71 rfl (lv_at hl 3 rfl) ?_
    refine lv_if_ne (tgt := 79) hx hb d_Machine_doOne_72 (by decide) (fun h3 => ?_) (fun h3 => ?_)
    · -- ¬ kd = 0
      refine lv_aload_n hx hb d_Machine_doOne_79 rfl (lv_at hl 0 rfl) ?_
      have hPc := hP.sub (ws' := [(mc, .inr (3, [.int res, .int stp, .int pcn, .ref ky, .ref vy, .ref gy, .ref ly, .ref sy, .int hgt, .int (ap + 1)])), (ky, .inl (cI, 20, .inl fk)), (vy, .inl (cI, 20, .inl fv)), (gy, .inl (cI, 3, .inl fa)), (ly, .inl (cI, 4, .inl fl)), (sy, .inl (cI, 8, .inl fs))]) [0, 1, 2, 3, 4, 5] rfl
      have hDc := hD.sub (ws' := [(mc, .inr (3, [.int res, .int stp, .int pcn, .ref ky, .ref vy, .ref gy, .ref ly, .ref sy, .int hgt, .int (ap + 1)])), (ky, .inl (cI, 20, .inl fk)), (vy, .inl (cI, 20, .inl fv)), (gy, .inl (cI, 3, .inl fa)), (ly, .inl (cI, 4, .inl fl)), (sy, .inl (cI, 8, .inl fs))]) [0, 1, 2, 3, 4, 5] (by decide) rfl
      have hFc := va_free (wc := [(mc, .inr (3, [.int res, .int stp, .int pcn, .ref ky, .ref vy, .ref gy, .ref ly, .ref sy, .int hgt, .int (ap + 1)])), (ky, .inl (cI, 20, .inl fk)), (vy, .inl (cI, 20, .inl fv)), (gy, .inl (cI, 3, .inl fa)), (ly, .inl (cI, 4, .inl fl)), (sy, .inl (cI, 8, .inl fs))]) hD hS hA [0, 1, 2, 3, 4, 5] rfl
      refine va_calli (va_runV (As := []) (rest := [.ref mc]) ⟨hx, hb, hml, hown, hts⟩ (c_Machine_pop l D cI cZ tN tG H.size mc ky vy gy ly sy res stp pcn fk fv fa fl fs hgt (ap + 1)) (cwV 0 hts (gd4 k_270 k_272 k_7 k_21 k_273) rfl rfl rfl (by decide +kernel) ⟨Nat.le_of_ble_eq_true rfl, Nat.le_of_ble_eq_true rfl⟩) ⟨MZ_blind, va_recv (q0 := 0) (ci := 3) hE.1 hP rfl rfl, mz_pre hE hZ hS hPc hDc hFc⟩ rfl rfl hl.1 rfl (lv_room (Nat.le_of_ble_eq_true rfl)) d_Machine_doOne_80 ⟨Nat.zero_le _, Nat.zero_le _⟩) hS (fun q _ h => hFc q h) hFc (fun r u t H1 locs ht hvm hw hB hz1 hk1 hS => ?_)
      obtain ⟨hP1, hD1⟩ := hB
      rw [ht] at hP1
      subst hw
      obtain ⟨hP, hD⟩ := va_join (wr := []) (w1 := [(mc, .inr (3, [.int res, .int stp, .int pcn, .ref ky, .ref vy, .ref gy, .ref ly, .ref sy, .int (hgt - 1), .int (ap + 1)])), (ky, .inl (cI, 20, .inl fk)), (vy, .inl (cI, 20, .inl fv)), (gy, .inl (cI, 3, .inl fa)), (ly, .inl (cI, 4, .inl fl)), (sy, .inl (cI, 8, .inl fs))]) hP hD [0, 1, 2, 3, 4, 5] [] rfl rfl (by decide) (by decide) hk1 hFc hP1 hD1
      generalize H1 = H at hP hS ⊢
      have hP : va_P D classes [(mc, .inr (3, [.int res, .int stp, .int pcn, .ref ky, .ref vy, .ref gy, .ref ly, .ref sy, .int (hgt - 1), .int (ap + 1)])), (ky, .inl (cI, 20, .inl fk)), (vy, .inl (cI, 20, .inl fv)), (gy, .inl (cI, 3, .inl fa)), (ly, .inl (cI, 4, .inl fl)), (sy, .inl (cI, 8, .inl fs))] H := hP
      have hD : va_D A [(mc, .inr (3, [.int res, .int stp, .int pcn, .ref ky, .ref vy, .ref gy, .ref ly, .ref sy, .int (hgt - 1), .int (ap + 1)])), (ky, .inl (cI, 20, .inl fk)), (vy, .inl (cI, 20, .inl fv)), (gy, .inl (cI, 3, .inl fa)), (ly, .inl (cI, 4, .inl fl)), (sy, .inl (cI, 8, .inl fs))] := hD
      refine va_put (D := D) (ci := 3) (v := .int (rd fs 8 (hgt - 1))) (ty := .int) (C := R_Machine) (T := F_Machine) (N := 10) hx hb hts in_Machine t_Machine t_Machine_ok n_Machine hown hE.1 hP hD hS 0 rfl rfl 0 (by decide) (hts _ k_83) (fun _ h9 => h9) rfl (by decide +kernel) rfl rfl (Nat.le_of_ble_eq_true rfl) d_Machine_doOne_83 (fun H locs hP hD hS => ?_)
      have hP : va_P D classes [(mc, .inr (3, [.int (rd fs 8 (hgt - 1)), .int stp, .int pcn, .ref ky, .ref vy, .ref gy, .ref ly, .ref sy, .int (hgt - 1), .int (ap + 1)])), (ky, .inl (cI, 20, .inl fk)), (vy, .inl (cI, 20, .inl fv)), (gy, .inl (cI, 3, .inl fa)), (ly, .inl (cI, 4, .inl fl)), (sy, .inl (cI, 8, .inl fs))] H := hP
      have hD : va_D A [(mc, .inr (3, [.int (rd fs 8 (hgt - 1)), .int stp, .int pcn, .ref ky, .ref vy, .ref gy, .ref ly, .ref sy, .int (hgt - 1), .int (ap + 1)])), (ky, .inl (cI, 20, .inl fk)), (vy, .inl (cI, 20, .inl fv)), (gy, .inl (cI, 3, .inl fa)), (ly, .inl (cI, 4, .inl fl)), (sy, .inl (cI, 8, .inl fs))] := hD
      refine lv_iconst (v := 0) hx hb d_Machine_doOne_86 (by decide) ?_
      refine W.iret hx hb hr (fun t ht hW => ⟨⟨0, ((rd fs 8 (hgt - 1)), stp, pcn, fk, fv, fa, fl, fs, (hgt - 1), (ap + 1)), rfl, ?_, ?_⟩, hS.F ht⟩) hS.2.2 d_Machine_doOne_87
      · (rw [m1_17]; simp only [h3, if_true, if_false, eq_self, not_true_eq_false, not_false_eq_true, ne_eq])
      · exact ⟨by rw [ht]; exact hP.sub [0, 1, 2, 3, 4, 5] rfl, hD.sub [0, 1, 2, 3, 4, 5] (by decide) rfl⟩
    · -- kd = 0
      refine lv_iconst (v := 0) hx hb d_Machine_doOne_75 (by decide) ?_
      refine lv_goto (tgt := 83) hx hb d_Machine_doOne_76 (by decide) ?_
      refine va_put (D := D) (ci := 3) (v := .int 0) (ty := .int) (C := R_Machine) (T := F_Machine) (N := 10) hx hb hts in_Machine t_Machine t_Machine_ok n_Machine hown hE.1 hP hD hS 0 rfl rfl 0 (by decide) (hts _ k_83) (fun _ h9 => h9) rfl (by decide +kernel) rfl rfl (Nat.le_of_ble_eq_true rfl) d_Machine_doOne_83 (fun H locs hP hD hS => ?_)
      have hP : va_P D classes [(mc, .inr (3, [.int 0, .int stp, .int pcn, .ref ky, .ref vy, .ref gy, .ref ly, .ref sy, .int hgt, .int (ap + 1)])), (ky, .inl (cI, 20, .inl fk)), (vy, .inl (cI, 20, .inl fv)), (gy, .inl (cI, 3, .inl fa)), (ly, .inl (cI, 4, .inl fl)), (sy, .inl (cI, 8, .inl fs))] H := hP
      have hD : va_D A [(mc, .inr (3, [.int 0, .int stp, .int pcn, .ref ky, .ref vy, .ref gy, .ref ly, .ref sy, .int hgt, .int (ap + 1)])), (ky, .inl (cI, 20, .inl fk)), (vy, .inl (cI, 20, .inl fv)), (gy, .inl (cI, 3, .inl fa)), (ly, .inl (cI, 4, .inl fl)), (sy, .inl (cI, 8, .inl fs))] := hD
      refine lv_iconst (v := 0) hx hb d_Machine_doOne_86 (by decide) ?_
      refine W.iret hx hb hr (fun t ht hW => ⟨⟨0, (0, stp, pcn, fk, fv, fa, fl, fs, hgt, (ap + 1)), rfl, ?_, ?_⟩, hS.F ht⟩) hS.2.2 d_Machine_doOne_87
      · (rw [m1_17]; simp only [h3, if_true, if_false, eq_self, not_true_eq_false, not_false_eq_true, ne_eq])
      · exact ⟨by rw [ht]; exact hP.sub [0, 1, 2, 3, 4, 5] rfl, hD.sub [0, 1, 2, 3, 4, 5] (by decide) rfl⟩
  · -- case 18
    have h1 : op = 18 := Int32.toInt_inj.mp (by rw [h1]; decide)
    subst h1
    refine lv_tableIn (tgt := 88) (off := 77) hx hb d_Machine_doOne_11 (by decide) (by decide) (by decide +kernel) (by decide) ?_
    refine lv_iconst (v := 1) hx hb d_Machine_doOne_88 (by decide) ?_
    refine W.iret hx hb hr (fun t ht hW => ⟨⟨1, (res, stp, pcn, fk, fv, fa, fl, fs, hgt, (ap + 1)), rfl, ?_, ?_⟩, hS.F ht⟩) hS.2.2 d_Machine_doOne_89
    · rfl
    · exact ⟨by rw [ht]; exact hP.sub [0, 1, 2, 3, 4, 5] rfl, hD.sub [0, 1, 2, 3, 4, 5] (by decide) rfl⟩
end
section
set_option maxHeartbeats 4000000 in
set_option maxRecDepth 100000 in
theorem c_Arrays_fill (l : Launch) (D : va_G) (cI cZ : ClassId) (tN tG : Nat) (hz : Nat) (a n : Nat) (f : Nat → Int32) (v : Int32) (hn : n < 2 ^ 31) : Met l y_Arrays_fill w_Arrays_fill (rmk 0) (va_Pc [.ref a, .int v] (MZ D cI cZ tN tG [(a, .inl (cI, n, .inl f))] hz)) (va_Qv (fun _ : Unit => True) (fun u t => ME D (va_A [(a, .inl (cI, n, .inl f))] hz) [(a, .inl (cI, n, .inl (fun _ => v)))] t) (va_A [(a, .inl (cI, n, .inl f))] hz)) 0 0 (va_A [(a, .inl (cI, n, .inl f))] hz) := by
  refine Met.ofW (cc := b_Arrays_fill) (maxL := 4) (ret := none) (by decide) rfl ?_
  intro p e s m args below meth c s₁ B hml hv
  obtain ⟨rfl, hsz, hP, hE, hD0, hZ⟩ := hv
  have hx := B.exec
  have hb := B.bytes
  have hr := B.returns
  have hts : ∀ w ∈ gW, w.before _ s = true := fun w h => atoms_spec (ws := w_Arrays_fill) B.pre w (List.mem_cons_of_mem _ h)
  have hown : s.vm.findClass R_Arrays = some m.cls := findClass_of_methodNamed B.named
  have hlocks := B.notSynchronized
  subst hsz
  have hD := hD0.self (sz := s.heap.size)
  have hA : ∀ q : Nat, s.heap.size ≤ q → va_A [(a, .inl (cI, n, .inl f))] s.heap.size q := fun q h => Or.inr h
  generalize va_A [(a, .inl (cI, n, .inl f))] s.heap.size = A at hD hA hZ ⊢
  have hS : va_S A s.heap s.heap [] := va_S.rf
  have hP : va_P D classes [(a, .inl (cI, n, .inl f))] s.heap := hP
  have hD : va_D A [(a, .inl (cI, n, .inl f))] := hD
  have hl := lv_entry ([.ref a, .int v]) (n := 4) (Nat.le_of_ble_eq_true rfl)
  rw [lg_entry_eq]
  generalize (lg_sl ([.ref a, .int v]) ++ List.replicate (4 - (lg_sl ([.ref a, .int v])).length) Slot.unset).toArray = ls at hl ⊢
  have hl : lv_has ls 4 [(0, .ref a), (1, .int v)] := hl
  refine lv_iconst (v := 0) hx hb d_Arrays_fill_0 (by decide) ?_
  refine lv_istore_n hx hb d_Arrays_fill_1 rfl hl (by decide) rfl (fun ls hl => ?_)
  have hl : lv_has ls 4 [(2, .int 0), (0, .ref a), (1, .int v)] := hl
  refine lv_aload_n hx hb d_Arrays_fill_2 rfl (lv_at hl 1 rfl) ?_
  refine va_alen (v := (nI n)) hx hb hE.1 hP 0 0 rfl rfl rfl d_Arrays_fill_3 ?_
  refine lv_istore_n hx hb d_Arrays_fill_4 rfl hl (by decide) rfl (fun ls hl => ?_)
  have hl : lv_has ls 4 [(3, .int (nI n)), (2, .int 0), (0, .ref a), (1, .int v)] := hl
  have key : ∀ (N : Nat) (j : Nat) (g : Nat → Int32) (H : Heap) (locs : List Loc) (ls : Array Slot), j + N = n → lv_has ls 4 [(3, .int (nI n)), (2, .int (nI j)), (0, .ref a), (1, .int v)] → va_P D classes [(a, .inl (cI, n, .inl g))] H → va_D A [(a, .inl (cI, n, .inl g))] → (∀ i, i < j → g i = v) → va_S A s.heap H locs → W p l e (headSpec w_Arrays_fill (rmk 0)).room s m ([.ref a, .int v] : List Value).toArray below meth c H locs 0 0 (MQ below (va_Qv (fun _ : Unit => True) (fun u t => ME D A [(a, .inl (cI, n, .inl (fun _ => v)))] t) A) ([.ref a, .int v] : List Value).toArray s 0 0 A) (F0 m 5 ls []) := by
    intro N
    induction N with
    | zero =>
      intro j g H locs ls hjN hl hP hD hg hS
      refine lv_iload_n hx hb d_Arrays_fill_5 rfl (lv_at hl 1 rfl) ?_
      refine lv_iload_n hx hb d_Arrays_fill_6 rfl (lv_at hl 0 rfl) ?_
      refine lv_icmp_ge (tgt := 20) hx hb d_Arrays_fill_7 (by decide) (fun h1 => ?_) (fun h1 => ?_)
      · -- (nI n) ≤ (nI j)
        have hP := P_arr1 (g := fun _ => v) (fun i hi => hg i (by omega)) hP
        have hD := D_arr1 (g := fun _ => v) hD
        refine W.vret hx hb hr (fun t ht hW => ⟨⟨(), rfl, ?_, ?_⟩, hS.F ht⟩) hS.2.2 d_Arrays_fill_20
        · trivial
        · exact ⟨by rw [ht]; exact hP.sub [0] rfl, hD.sub [0] (by decide) rfl⟩
      · -- ¬ (nI n) ≤ (nI j)
        exact absurd (nI_le (by omega) (by omega)) h1
    | succ N ih =>
      intro j g H locs ls hjN hl hP hD hg hS
      refine lv_iload_n hx hb d_Arrays_fill_5 rfl (lv_at hl 1 rfl) ?_
      refine lv_iload_n hx hb d_Arrays_fill_6 rfl (lv_at hl 0 rfl) ?_
      refine lv_icmp_ge (tgt := 20) hx hb d_Arrays_fill_7 (by decide) (fun h2 => ?_) (fun h2 => ?_)
      · -- (nI n) ≤ (nI j)
        exact absurd h2 (nI_ge (by omega) (by omega))
      · -- ¬ (nI n) ≤ (nI j)
        refine lv_aload_n hx hb d_Arrays_fill_10 rfl (lv_at hl 2 rfl) ?_
        refine lv_iload_n hx hb d_Arrays_fill_11 rfl (lv_at hl 1 rfl) ?_
        refine lv_iload_n hx hb d_Arrays_fill_12 rfl (lv_at hl 3 rfl) ?_
        refine va_iast hx hb hE.1 hP hD hS 0 0 rfl rfl (vp_in_nI (by omega) hn) d_Arrays_fill_13 (fun H locs hP hD hS => ?_)
        rw [nI_clamp (show j < 2 ^ 31 by omega)] at hP hD
        have hP : va_P D classes [(a, .inl (cI, n, .inl (upd g j v)))] H := hP
        have hD : va_D A [(a, .inl (cI, n, .inl (upd g j v)))] := hD
        refine lv_iinc (v := ((nI j) + 1)) (k := 1) hx hb d_Arrays_fill_14 hl rfl rfl (by decide) rfl (fun ls hl => ?_)
        have hl : lv_has ls 4 [(2, .int ((nI j) + 1)), (3, .int (nI n)), (0, .ref a), (1, .int v)] := hl
        refine lv_goto (tgt := 5) hx hb d_Arrays_fill_17 (by decide) ?_
        rw [nI_1] at hl
        exact ih (j + 1) _ _ _ _ (by omega) (lv_sub hl [1, 0, 2, 3] rfl) hP hD (fun i hi => by
          unfold upd
          by_cases hij : i = j
          · rw [if_pos hij]
          · rw [if_neg hij]; exact hg i (by omega)) hS
  exact key n 0 f s.heap [] ls (Nat.zero_add n) hl hP hD (fun i h => absurd h (Nat.not_lt_zero i)) hS
def bitc (i : Int32) : Int32 := ((((((((i - (((i.toUInt32 >>> (Int32.toUInt32 1 &&& Int32.toUInt32 31)).toInt32) &&& 1431655765)) &&& 858993459) + ((((i - (((i.toUInt32 >>> (Int32.toUInt32 1 &&& Int32.toUInt32 31)).toInt32) &&& 1431655765)).toUInt32 >>> (Int32.toUInt32 2 &&& Int32.toUInt32 31)).toInt32) &&& 858993459)) + (((((i - (((i.toUInt32 >>> (Int32.toUInt32 1 &&& Int32.toUInt32 31)).toInt32) &&& 1431655765)) &&& 858993459) + ((((i - (((i.toUInt32 >>> (Int32.toUInt32 1 &&& Int32.toUInt32 31)).toInt32) &&& 1431655765)).toUInt32 >>> (Int32.toUInt32 2 &&& Int32.toUInt32 31)).toInt32) &&& 858993459)).toUInt32 >>> (Int32.toUInt32 4 &&& Int32.toUInt32 31)).toInt32)) &&& 252645135) + (((((((i - (((i.toUInt32 >>> (Int32.toUInt32 1 &&& Int32.toUInt32 31)).toInt32) &&& 1431655765)) &&& 858993459) + ((((i - (((i.toUInt32 >>> (Int32.toUInt32 1 &&& Int32.toUInt32 31)).toInt32) &&& 1431655765)).toUInt32 >>> (Int32.toUInt32 2 &&& Int32.toUInt32 31)).toInt32) &&& 858993459)) + (((((i - (((i.toUInt32 >>> (Int32.toUInt32 1 &&& Int32.toUInt32 31)).toInt32) &&& 1431655765)) &&& 858993459) + ((((i - (((i.toUInt32 >>> (Int32.toUInt32 1 &&& Int32.toUInt32 31)).toInt32) &&& 1431655765)).toUInt32 >>> (Int32.toUInt32 2 &&& Int32.toUInt32 31)).toInt32) &&& 858993459)).toUInt32 >>> (Int32.toUInt32 4 &&& Int32.toUInt32 31)).toInt32)) &&& 252645135).toUInt32 >>> (Int32.toUInt32 8 &&& Int32.toUInt32 31)).toInt32)) + ((((((((i - (((i.toUInt32 >>> (Int32.toUInt32 1 &&& Int32.toUInt32 31)).toInt32) &&& 1431655765)) &&& 858993459) + ((((i - (((i.toUInt32 >>> (Int32.toUInt32 1 &&& Int32.toUInt32 31)).toInt32) &&& 1431655765)).toUInt32 >>> (Int32.toUInt32 2 &&& Int32.toUInt32 31)).toInt32) &&& 858993459)) + (((((i - (((i.toUInt32 >>> (Int32.toUInt32 1 &&& Int32.toUInt32 31)).toInt32) &&& 1431655765)) &&& 858993459) + ((((i - (((i.toUInt32 >>> (Int32.toUInt32 1 &&& Int32.toUInt32 31)).toInt32) &&& 1431655765)).toUInt32 >>> (Int32.toUInt32 2 &&& Int32.toUInt32 31)).toInt32) &&& 858993459)).toUInt32 >>> (Int32.toUInt32 4 &&& Int32.toUInt32 31)).toInt32)) &&& 252645135) + (((((((i - (((i.toUInt32 >>> (Int32.toUInt32 1 &&& Int32.toUInt32 31)).toInt32) &&& 1431655765)) &&& 858993459) + ((((i - (((i.toUInt32 >>> (Int32.toUInt32 1 &&& Int32.toUInt32 31)).toInt32) &&& 1431655765)).toUInt32 >>> (Int32.toUInt32 2 &&& Int32.toUInt32 31)).toInt32) &&& 858993459)) + (((((i - (((i.toUInt32 >>> (Int32.toUInt32 1 &&& Int32.toUInt32 31)).toInt32) &&& 1431655765)) &&& 858993459) + ((((i - (((i.toUInt32 >>> (Int32.toUInt32 1 &&& Int32.toUInt32 31)).toInt32) &&& 1431655765)).toUInt32 >>> (Int32.toUInt32 2 &&& Int32.toUInt32 31)).toInt32) &&& 858993459)).toUInt32 >>> (Int32.toUInt32 4 &&& Int32.toUInt32 31)).toInt32)) &&& 252645135).toUInt32 >>> (Int32.toUInt32 8 &&& Int32.toUInt32 31)).toInt32)).toUInt32 >>> (Int32.toUInt32 16 &&& Int32.toUInt32 31)).toInt32)) &&& 63)
set_option maxHeartbeats 4000000 in
set_option maxRecDepth 100000 in
theorem c_Integer_bitCount (l : Launch) (i : Int32) : Met l y_Integer_bitCount w_Integer_bitCount (rmk 0) (va_Pc [.int i] (fun _ => True)) (vp_Si (fun r => r = bitc i)) 0 0 (fun _ => False) := by
  refine Met.ofW (cc := b_Integer_bitCount) (maxL := 1) (ret := (some .int)) (by decide) rfl ?_
  intro p e s m args below meth c s₁ B hml hv
  obtain ⟨rfl, -⟩ := hv
  have hx := B.exec
  have hb := B.bytes
  have hr := B.returns
  have hts : ∀ w ∈ gW, w.before _ s = true := fun w h => atoms_spec (ws := w_Integer_bitCount) B.pre w (List.mem_cons_of_mem _ h)
  have hown : s.vm.findClass R_Integer = some m.cls := findClass_of_methodNamed B.named
  have hlocks := B.notSynchronized
  have hl := lv_entry ([.int i]) (n := 1) (Nat.le_of_ble_eq_true rfl)
  rw [lg_entry_eq]
  generalize (lg_sl ([.int i]) ++ List.replicate (1 - (lg_sl ([.int i])).length) Slot.unset).toArray = ls at hl ⊢
  have hl : lv_has ls 1 [(0, .int i)] := hl
  refine lv_iload_n hx hb d_Integer_bitCount_0 rfl (lv_at hl 0 rfl) ?_
  refine lv_iload_n hx hb d_Integer_bitCount_1 rfl (lv_at hl 0 rfl) ?_
  refine lv_iconst (v := 1) hx hb d_Integer_bitCount_2 (by decide) ?_
  refine lv_iushr (v := (i.toUInt32 >>> (Int32.toUInt32 1 &&& Int32.toUInt32 31)).toInt32) hx hb d_Integer_bitCount_3 rfl ?_
  refine lv_ldcw (v := 1431655765) hx hb hown (hts _ k_240) d_Integer_bitCount_4 ?_
  refine lv_iand hx hb d_Integer_bitCount_7 ?_
  refine lv_isub hx hb d_Integer_bitCount_8 ?_
  refine lv_istore_n hx hb d_Integer_bitCount_9 rfl hl (by decide) rfl (fun ls hl => ?_)
  have hl : lv_has ls 1 [(0, .int (i - (((i.toUInt32 >>> (Int32.toUInt32 1 &&& Int32.toUInt32 31)).toInt32) &&& 1431655765)))] := hl
  refine lv_iload_n hx hb d_Integer_bitCount_10 rfl (lv_at hl 0 rfl) ?_
  refine lv_ldcw (v := 858993459) hx hb hown (hts _ k_241) d_Integer_bitCount_11 ?_
  refine lv_iand hx hb d_Integer_bitCount_14 ?_
  refine lv_iload_n hx hb d_Integer_bitCount_15 rfl (lv_at hl 0 rfl) ?_
  refine lv_iconst (v := 2) hx hb d_Integer_bitCount_16 (by decide) ?_
  refine lv_iushr (v := ((i - (((i.toUInt32 >>> (Int32.toUInt32 1 &&& Int32.toUInt32 31)).toInt32) &&& 1431655765)).toUInt32 >>> (Int32.toUInt32 2 &&& Int32.toUInt32 31)).toInt32) hx hb d_Integer_bitCount_17 rfl ?_
  refine lv_ldcw (v := 858993459) hx hb hown (hts _ k_241) d_Integer_bitCount_18 ?_
  refine lv_iand hx hb d_Integer_bitCount_21 ?_
  refine lv_iadd hx hb d_Integer_bitCount_22 ?_
  refine lv_istore_n hx hb d_Integer_bitCount_23 rfl hl (by decide) rfl (fun ls hl => ?_)
  have hl : lv_has ls 1 [(0, .int (((i - (((i.toUInt32 >>> (Int32.toUInt32 1 &&& Int32.toUInt32 31)).toInt32) &&& 1431655765)) &&& 858993459) + ((((i - (((i.toUInt32 >>> (Int32.toUInt32 1 &&& Int32.toUInt32 31)).toInt32) &&& 1431655765)).toUInt32 >>> (Int32.toUInt32 2 &&& Int32.toUInt32 31)).toInt32) &&& 858993459)))] := hl
  refine lv_iload_n hx hb d_Integer_bitCount_24 rfl (lv_at hl 0 rfl) ?_
  refine lv_iload_n hx hb d_Integer_bitCount_25 rfl (lv_at hl 0 rfl) ?_
  refine lv_iconst (v := 4) hx hb d_Integer_bitCount_26 (by decide) ?_
  refine lv_iushr (v := ((((i - (((i.toUInt32 >>> (Int32.toUInt32 1 &&& Int32.toUInt32 31)).toInt32) &&& 1431655765)) &&& 858993459) + ((((i - (((i.toUInt32 >>> (Int32.toUInt32 1 &&& Int32.toUInt32 31)).toInt32) &&& 1431655765)).toUInt32 >>> (Int32.toUInt32 2 &&& Int32.toUInt32 31)).toInt32) &&& 858993459)).toUInt32 >>> (Int32.toUInt32 4 &&& Int32.toUInt32 31)).toInt32) hx hb d_Integer_bitCount_27 rfl ?_
  refine lv_iadd hx hb d_Integer_bitCount_28 ?_
  refine lv_ldcw (v := 252645135) hx hb hown (hts _ k_242) d_Integer_bitCount_29 ?_
  refine lv_iand hx hb d_Integer_bitCount_32 ?_
  refine lv_istore_n hx hb d_Integer_bitCount_33 rfl hl (by decide) rfl (fun ls hl => ?_)
  have hl : lv_has ls 1 [(0, .int (((((i - (((i.toUInt32 >>> (Int32.toUInt32 1 &&& Int32.toUInt32 31)).toInt32) &&& 1431655765)) &&& 858993459) + ((((i - (((i.toUInt32 >>> (Int32.toUInt32 1 &&& Int32.toUInt32 31)).toInt32) &&& 1431655765)).toUInt32 >>> (Int32.toUInt32 2 &&& Int32.toUInt32 31)).toInt32) &&& 858993459)) + (((((i - (((i.toUInt32 >>> (Int32.toUInt32 1 &&& Int32.toUInt32 31)).toInt32) &&& 1431655765)) &&& 858993459) + ((((i - (((i.toUInt32 >>> (Int32.toUInt32 1 &&& Int32.toUInt32 31)).toInt32) &&& 1431655765)).toUInt32 >>> (Int32.toUInt32 2 &&& Int32.toUInt32 31)).toInt32) &&& 858993459)).toUInt32 >>> (Int32.toUInt32 4 &&& Int32.toUInt32 31)).toInt32)) &&& 252645135))] := hl
  refine lv_iload_n hx hb d_Integer_bitCount_34 rfl (lv_at hl 0 rfl) ?_
  refine lv_iload_n hx hb d_Integer_bitCount_35 rfl (lv_at hl 0 rfl) ?_
  refine lv_bipush (v := 8) hx hb d_Integer_bitCount_36 (by decide) ?_
  refine lv_iushr (v := ((((((i - (((i.toUInt32 >>> (Int32.toUInt32 1 &&& Int32.toUInt32 31)).toInt32) &&& 1431655765)) &&& 858993459) + ((((i - (((i.toUInt32 >>> (Int32.toUInt32 1 &&& Int32.toUInt32 31)).toInt32) &&& 1431655765)).toUInt32 >>> (Int32.toUInt32 2 &&& Int32.toUInt32 31)).toInt32) &&& 858993459)) + (((((i - (((i.toUInt32 >>> (Int32.toUInt32 1 &&& Int32.toUInt32 31)).toInt32) &&& 1431655765)) &&& 858993459) + ((((i - (((i.toUInt32 >>> (Int32.toUInt32 1 &&& Int32.toUInt32 31)).toInt32) &&& 1431655765)).toUInt32 >>> (Int32.toUInt32 2 &&& Int32.toUInt32 31)).toInt32) &&& 858993459)).toUInt32 >>> (Int32.toUInt32 4 &&& Int32.toUInt32 31)).toInt32)) &&& 252645135).toUInt32 >>> (Int32.toUInt32 8 &&& Int32.toUInt32 31)).toInt32) hx hb d_Integer_bitCount_38 rfl ?_
  refine lv_iadd hx hb d_Integer_bitCount_39 ?_
  refine lv_istore_n hx hb d_Integer_bitCount_40 rfl hl (by decide) rfl (fun ls hl => ?_)
  have hl : lv_has ls 1 [(0, .int ((((((i - (((i.toUInt32 >>> (Int32.toUInt32 1 &&& Int32.toUInt32 31)).toInt32) &&& 1431655765)) &&& 858993459) + ((((i - (((i.toUInt32 >>> (Int32.toUInt32 1 &&& Int32.toUInt32 31)).toInt32) &&& 1431655765)).toUInt32 >>> (Int32.toUInt32 2 &&& Int32.toUInt32 31)).toInt32) &&& 858993459)) + (((((i - (((i.toUInt32 >>> (Int32.toUInt32 1 &&& Int32.toUInt32 31)).toInt32) &&& 1431655765)) &&& 858993459) + ((((i - (((i.toUInt32 >>> (Int32.toUInt32 1 &&& Int32.toUInt32 31)).toInt32) &&& 1431655765)).toUInt32 >>> (Int32.toUInt32 2 &&& Int32.toUInt32 31)).toInt32) &&& 858993459)).toUInt32 >>> (Int32.toUInt32 4 &&& Int32.toUInt32 31)).toInt32)) &&& 252645135) + (((((((i - (((i.toUInt32 >>> (Int32.toUInt32 1 &&& Int32.toUInt32 31)).toInt32) &&& 1431655765)) &&& 858993459) + ((((i - (((i.toUInt32 >>> (Int32.toUInt32 1 &&& Int32.toUInt32 31)).toInt32) &&& 1431655765)).toUInt32 >>> (Int32.toUInt32 2 &&& Int32.toUInt32 31)).toInt32) &&& 858993459)) + (((((i - (((i.toUInt32 >>> (Int32.toUInt32 1 &&& Int32.toUInt32 31)).toInt32) &&& 1431655765)) &&& 858993459) + ((((i - (((i.toUInt32 >>> (Int32.toUInt32 1 &&& Int32.toUInt32 31)).toInt32) &&& 1431655765)).toUInt32 >>> (Int32.toUInt32 2 &&& Int32.toUInt32 31)).toInt32) &&& 858993459)).toUInt32 >>> (Int32.toUInt32 4 &&& Int32.toUInt32 31)).toInt32)) &&& 252645135).toUInt32 >>> (Int32.toUInt32 8 &&& Int32.toUInt32 31)).toInt32)))] := hl
  refine lv_iload_n hx hb d_Integer_bitCount_41 rfl (lv_at hl 0 rfl) ?_
  refine lv_iload_n hx hb d_Integer_bitCount_42 rfl (lv_at hl 0 rfl) ?_
  refine lv_bipush (v := 16) hx hb d_Integer_bitCount_43 (by decide) ?_
  refine lv_iushr (v := (((((((i - (((i.toUInt32 >>> (Int32.toUInt32 1 &&& Int32.toUInt32 31)).toInt32) &&& 1431655765)) &&& 858993459) + ((((i - (((i.toUInt32 >>> (Int32.toUInt32 1 &&& Int32.toUInt32 31)).toInt32) &&& 1431655765)).toUInt32 >>> (Int32.toUInt32 2 &&& Int32.toUInt32 31)).toInt32) &&& 858993459)) + (((((i - (((i.toUInt32 >>> (Int32.toUInt32 1 &&& Int32.toUInt32 31)).toInt32) &&& 1431655765)) &&& 858993459) + ((((i - (((i.toUInt32 >>> (Int32.toUInt32 1 &&& Int32.toUInt32 31)).toInt32) &&& 1431655765)).toUInt32 >>> (Int32.toUInt32 2 &&& Int32.toUInt32 31)).toInt32) &&& 858993459)).toUInt32 >>> (Int32.toUInt32 4 &&& Int32.toUInt32 31)).toInt32)) &&& 252645135) + (((((((i - (((i.toUInt32 >>> (Int32.toUInt32 1 &&& Int32.toUInt32 31)).toInt32) &&& 1431655765)) &&& 858993459) + ((((i - (((i.toUInt32 >>> (Int32.toUInt32 1 &&& Int32.toUInt32 31)).toInt32) &&& 1431655765)).toUInt32 >>> (Int32.toUInt32 2 &&& Int32.toUInt32 31)).toInt32) &&& 858993459)) + (((((i - (((i.toUInt32 >>> (Int32.toUInt32 1 &&& Int32.toUInt32 31)).toInt32) &&& 1431655765)) &&& 858993459) + ((((i - (((i.toUInt32 >>> (Int32.toUInt32 1 &&& Int32.toUInt32 31)).toInt32) &&& 1431655765)).toUInt32 >>> (Int32.toUInt32 2 &&& Int32.toUInt32 31)).toInt32) &&& 858993459)).toUInt32 >>> (Int32.toUInt32 4 &&& Int32.toUInt32 31)).toInt32)) &&& 252645135).toUInt32 >>> (Int32.toUInt32 8 &&& Int32.toUInt32 31)).toInt32)).toUInt32 >>> (Int32.toUInt32 16 &&& Int32.toUInt32 31)).toInt32) hx hb d_Integer_bitCount_45 rfl ?_
  refine lv_iadd hx hb d_Integer_bitCount_46 ?_
  refine lv_istore_n hx hb d_Integer_bitCount_47 rfl hl (by decide) rfl (fun ls hl => ?_)
  have hl : lv_has ls 1 [(0, .int (((((((i - (((i.toUInt32 >>> (Int32.toUInt32 1 &&& Int32.toUInt32 31)).toInt32) &&& 1431655765)) &&& 858993459) + ((((i - (((i.toUInt32 >>> (Int32.toUInt32 1 &&& Int32.toUInt32 31)).toInt32) &&& 1431655765)).toUInt32 >>> (Int32.toUInt32 2 &&& Int32.toUInt32 31)).toInt32) &&& 858993459)) + (((((i - (((i.toUInt32 >>> (Int32.toUInt32 1 &&& Int32.toUInt32 31)).toInt32) &&& 1431655765)) &&& 858993459) + ((((i - (((i.toUInt32 >>> (Int32.toUInt32 1 &&& Int32.toUInt32 31)).toInt32) &&& 1431655765)).toUInt32 >>> (Int32.toUInt32 2 &&& Int32.toUInt32 31)).toInt32) &&& 858993459)).toUInt32 >>> (Int32.toUInt32 4 &&& Int32.toUInt32 31)).toInt32)) &&& 252645135) + (((((((i - (((i.toUInt32 >>> (Int32.toUInt32 1 &&& Int32.toUInt32 31)).toInt32) &&& 1431655765)) &&& 858993459) + ((((i - (((i.toUInt32 >>> (Int32.toUInt32 1 &&& Int32.toUInt32 31)).toInt32) &&& 1431655765)).toUInt32 >>> (Int32.toUInt32 2 &&& Int32.toUInt32 31)).toInt32) &&& 858993459)) + (((((i - (((i.toUInt32 >>> (Int32.toUInt32 1 &&& Int32.toUInt32 31)).toInt32) &&& 1431655765)) &&& 858993459) + ((((i - (((i.toUInt32 >>> (Int32.toUInt32 1 &&& Int32.toUInt32 31)).toInt32) &&& 1431655765)).toUInt32 >>> (Int32.toUInt32 2 &&& Int32.toUInt32 31)).toInt32) &&& 858993459)).toUInt32 >>> (Int32.toUInt32 4 &&& Int32.toUInt32 31)).toInt32)) &&& 252645135).toUInt32 >>> (Int32.toUInt32 8 &&& Int32.toUInt32 31)).toInt32)) + ((((((((i - (((i.toUInt32 >>> (Int32.toUInt32 1 &&& Int32.toUInt32 31)).toInt32) &&& 1431655765)) &&& 858993459) + ((((i - (((i.toUInt32 >>> (Int32.toUInt32 1 &&& Int32.toUInt32 31)).toInt32) &&& 1431655765)).toUInt32 >>> (Int32.toUInt32 2 &&& Int32.toUInt32 31)).toInt32) &&& 858993459)) + (((((i - (((i.toUInt32 >>> (Int32.toUInt32 1 &&& Int32.toUInt32 31)).toInt32) &&& 1431655765)) &&& 858993459) + ((((i - (((i.toUInt32 >>> (Int32.toUInt32 1 &&& Int32.toUInt32 31)).toInt32) &&& 1431655765)).toUInt32 >>> (Int32.toUInt32 2 &&& Int32.toUInt32 31)).toInt32) &&& 858993459)).toUInt32 >>> (Int32.toUInt32 4 &&& Int32.toUInt32 31)).toInt32)) &&& 252645135) + (((((((i - (((i.toUInt32 >>> (Int32.toUInt32 1 &&& Int32.toUInt32 31)).toInt32) &&& 1431655765)) &&& 858993459) + ((((i - (((i.toUInt32 >>> (Int32.toUInt32 1 &&& Int32.toUInt32 31)).toInt32) &&& 1431655765)).toUInt32 >>> (Int32.toUInt32 2 &&& Int32.toUInt32 31)).toInt32) &&& 858993459)) + (((((i - (((i.toUInt32 >>> (Int32.toUInt32 1 &&& Int32.toUInt32 31)).toInt32) &&& 1431655765)) &&& 858993459) + ((((i - (((i.toUInt32 >>> (Int32.toUInt32 1 &&& Int32.toUInt32 31)).toInt32) &&& 1431655765)).toUInt32 >>> (Int32.toUInt32 2 &&& Int32.toUInt32 31)).toInt32) &&& 858993459)).toUInt32 >>> (Int32.toUInt32 4 &&& Int32.toUInt32 31)).toInt32)) &&& 252645135).toUInt32 >>> (Int32.toUInt32 8 &&& Int32.toUInt32 31)).toInt32)).toUInt32 >>> (Int32.toUInt32 16 &&& Int32.toUInt32 31)).toInt32)))] := hl
  refine lv_iload_n hx hb d_Integer_bitCount_48 rfl (lv_at hl 0 rfl) ?_
  refine lv_bipush (v := 63) hx hb d_Integer_bitCount_49 (by decide) ?_
  refine lv_iand hx hb d_Integer_bitCount_51 ?_
  refine W.iret hx hb hr (fun t ht hW => ⟨_, rfl, ?_, ht⟩) (fun q h => by cases h) d_Integer_bitCount_52
  show ((((((((i - (((i.toUInt32 >>> (Int32.toUInt32 1 &&& Int32.toUInt32 31)).toInt32) &&& 1431655765)) &&& 858993459) + ((((i - (((i.toUInt32 >>> (Int32.toUInt32 1 &&& Int32.toUInt32 31)).toInt32) &&& 1431655765)).toUInt32 >>> (Int32.toUInt32 2 &&& Int32.toUInt32 31)).toInt32) &&& 858993459)) + (((((i - (((i.toUInt32 >>> (Int32.toUInt32 1 &&& Int32.toUInt32 31)).toInt32) &&& 1431655765)) &&& 858993459) + ((((i - (((i.toUInt32 >>> (Int32.toUInt32 1 &&& Int32.toUInt32 31)).toInt32) &&& 1431655765)).toUInt32 >>> (Int32.toUInt32 2 &&& Int32.toUInt32 31)).toInt32) &&& 858993459)).toUInt32 >>> (Int32.toUInt32 4 &&& Int32.toUInt32 31)).toInt32)) &&& 252645135) + (((((((i - (((i.toUInt32 >>> (Int32.toUInt32 1 &&& Int32.toUInt32 31)).toInt32) &&& 1431655765)) &&& 858993459) + ((((i - (((i.toUInt32 >>> (Int32.toUInt32 1 &&& Int32.toUInt32 31)).toInt32) &&& 1431655765)).toUInt32 >>> (Int32.toUInt32 2 &&& Int32.toUInt32 31)).toInt32) &&& 858993459)) + (((((i - (((i.toUInt32 >>> (Int32.toUInt32 1 &&& Int32.toUInt32 31)).toInt32) &&& 1431655765)) &&& 858993459) + ((((i - (((i.toUInt32 >>> (Int32.toUInt32 1 &&& Int32.toUInt32 31)).toInt32) &&& 1431655765)).toUInt32 >>> (Int32.toUInt32 2 &&& Int32.toUInt32 31)).toInt32) &&& 858993459)).toUInt32 >>> (Int32.toUInt32 4 &&& Int32.toUInt32 31)).toInt32)) &&& 252645135).toUInt32 >>> (Int32.toUInt32 8 &&& Int32.toUInt32 31)).toInt32)) + ((((((((i - (((i.toUInt32 >>> (Int32.toUInt32 1 &&& Int32.toUInt32 31)).toInt32) &&& 1431655765)) &&& 858993459) + ((((i - (((i.toUInt32 >>> (Int32.toUInt32 1 &&& Int32.toUInt32 31)).toInt32) &&& 1431655765)).toUInt32 >>> (Int32.toUInt32 2 &&& Int32.toUInt32 31)).toInt32) &&& 858993459)) + (((((i - (((i.toUInt32 >>> (Int32.toUInt32 1 &&& Int32.toUInt32 31)).toInt32) &&& 1431655765)) &&& 858993459) + ((((i - (((i.toUInt32 >>> (Int32.toUInt32 1 &&& Int32.toUInt32 31)).toInt32) &&& 1431655765)).toUInt32 >>> (Int32.toUInt32 2 &&& Int32.toUInt32 31)).toInt32) &&& 858993459)).toUInt32 >>> (Int32.toUInt32 4 &&& Int32.toUInt32 31)).toInt32)) &&& 252645135) + (((((((i - (((i.toUInt32 >>> (Int32.toUInt32 1 &&& Int32.toUInt32 31)).toInt32) &&& 1431655765)) &&& 858993459) + ((((i - (((i.toUInt32 >>> (Int32.toUInt32 1 &&& Int32.toUInt32 31)).toInt32) &&& 1431655765)).toUInt32 >>> (Int32.toUInt32 2 &&& Int32.toUInt32 31)).toInt32) &&& 858993459)) + (((((i - (((i.toUInt32 >>> (Int32.toUInt32 1 &&& Int32.toUInt32 31)).toInt32) &&& 1431655765)) &&& 858993459) + ((((i - (((i.toUInt32 >>> (Int32.toUInt32 1 &&& Int32.toUInt32 31)).toInt32) &&& 1431655765)).toUInt32 >>> (Int32.toUInt32 2 &&& Int32.toUInt32 31)).toInt32) &&& 858993459)).toUInt32 >>> (Int32.toUInt32 4 &&& Int32.toUInt32 31)).toInt32)) &&& 252645135).toUInt32 >>> (Int32.toUInt32 8 &&& Int32.toUInt32 31)).toInt32)).toUInt32 >>> (Int32.toUInt32 16 &&& Int32.toUInt32 31)).toInt32)) &&& 63) = bitc i
  rfl
end
section
set_option maxHeartbeats 4000000 in
set_option maxRecDepth 100000 in
theorem c_Ways_follow (l : Launch) (D : va_G) (cI cZ : ClassId) (tN tG : Nat) (hz : Nat) (pr po pn : Nat) (kd sz ac : Int32) (fo fn : Nat → Int32) (wy re wa : Nat) (fr fw : Nat → Int32) (wc : Int32) : Met l y_Ways_follow w_Ways_follow (rmk 4) (va_Pc [.ref wy, .ref pr] (MZ D cI cZ tN tG [(pr, .inr (1, [.int kd, .int sz, .int ac, .ref po, .ref pn])), (po, .inl (cI, 64, .inl fo)), (pn, .inl (cI, 64, .inl fn)), (wy, .inr (2, [.ref re, .ref wa, .int wc])), (re, .inl (cI, 64, .inl fr)), (wa, .inl (cI, 576, .inl fw))] hz)) (va_Qv (fun u : WS => u = w_follow kd sz ac fo fn fw) (fun u t => ME D (va_A [(pr, .inr (1, [.int kd, .int sz, .int ac, .ref po, .ref pn])), (po, .inl (cI, 64, .inl fo)), (pn, .inl (cI, 64, .inl fn)), (wy, .inr (2, [.ref re, .ref wa, .int wc])), (re, .inl (cI, 64, .inl fr)), (wa, .inl (cI, 576, .inl fw))] hz) [(pr, .inr (1, [.int kd, .int sz, .int ac, .ref po, .ref pn])), (po, .inl (cI, 64, .inl fo)), (pn, .inl (cI, 64, .inl fn)), (wy, .inr (2, [.ref re, .ref wa, .int u.2.2])), (re, .inl (cI, 64, .inl u.1)), (wa, .inl (cI, 576, .inl u.2.1))] t) (va_A [(pr, .inr (1, [.int kd, .int sz, .int ac, .ref po, .ref pn])), (po, .inl (cI, 64, .inl fo)), (pn, .inl (cI, 64, .inl fn)), (wy, .inr (2, [.ref re, .ref wa, .int wc])), (re, .inl (cI, 64, .inl fr)), (wa, .inl (cI, 576, .inl fw))] hz)) 0 0 (va_A [(pr, .inr (1, [.int kd, .int sz, .int ac, .ref po, .ref pn])), (po, .inl (cI, 64, .inl fo)), (pn, .inl (cI, 64, .inl fn)), (wy, .inr (2, [.ref re, .ref wa, .int wc])), (re, .inl (cI, 64, .inl fr)), (wa, .inl (cI, 576, .inl fw))] hz) := by
  refine Met.ofW (cc := b_Ways_follow) (maxL := 4) (ret := none) (by decide) rfl ?_
  intro p e s m args below meth c s₁ B hml hv
  obtain ⟨rfl, hsz, hP, hE, hD0, hZ⟩ := hv
  have hx := B.exec
  have hb := B.bytes
  have hr := B.returns
  have hts : ∀ w ∈ gW, w.before _ s = true := fun w h => atoms_spec (ws := w_Ways_follow) B.pre w (List.mem_cons_of_mem _ h)
  have hown : s.vm.findClass R_Ways = some m.cls := findClass_of_methodNamed B.named
  have hlocks := B.notSynchronized
  subst hsz
  have hD := hD0.self (sz := s.heap.size)
  have hA : ∀ q : Nat, s.heap.size ≤ q → va_A [(pr, .inr (1, [.int kd, .int sz, .int ac, .ref po, .ref pn])), (po, .inl (cI, 64, .inl fo)), (pn, .inl (cI, 64, .inl fn)), (wy, .inr (2, [.ref re, .ref wa, .int wc])), (re, .inl (cI, 64, .inl fr)), (wa, .inl (cI, 576, .inl fw))] s.heap.size q := fun q h => Or.inr h
  generalize va_A [(pr, .inr (1, [.int kd, .int sz, .int ac, .ref po, .ref pn])), (po, .inl (cI, 64, .inl fo)), (pn, .inl (cI, 64, .inl fn)), (wy, .inr (2, [.ref re, .ref wa, .int wc])), (re, .inl (cI, 64, .inl fr)), (wa, .inl (cI, 576, .inl fw))] s.heap.size = A at hD hA hZ ⊢
  have hS : va_S A s.heap s.heap [] := va_S.rf
  have hP : va_P D classes [(pr, .inr (1, [.int kd, .int sz, .int ac, .ref po, .ref pn])), (po, .inl (cI, 64, .inl fo)), (pn, .inl (cI, 64, .inl fn)), (wy, .inr (2, [.ref re, .ref wa, .int wc])), (re, .inl (cI, 64, .inl fr)), (wa, .inl (cI, 576, .inl fw))] s.heap := hP
  have hD : va_D A [(pr, .inr (1, [.int kd, .int sz, .int ac, .ref po, .ref pn])), (po, .inl (cI, 64, .inl fo)), (pn, .inl (cI, 64, .inl fn)), (wy, .inr (2, [.ref re, .ref wa, .int wc])), (re, .inl (cI, 64, .inl fr)), (wa, .inl (cI, 576, .inl fw))] := hD
  have hl := lv_entry ([.ref wy, .ref pr]) (n := 4) (Nat.le_of_ble_eq_true rfl)
  rw [lg_entry_eq]
  generalize (lg_sl ([.ref wy, .ref pr]) ++ List.replicate (4 - (lg_sl ([.ref wy, .ref pr])).length) Slot.unset).toArray = ls at hl ⊢
  have hl : lv_has ls 4 [(0, .ref wy), (1, .ref pr)] := hl
  refine lv_aload_n hx hb d_Ways_follow_0 rfl (lv_at hl 0 rfl) ?_
  refine va_get (D := D) (ci := 2) (v := .ref re) (C := R_Ways) (T := F_Ways) (N := 3) hx hb hts in_Ways hown hE.1 hP 3 rfl rfl 0 (by decide) (hts _ k_66) (fun _ h9 => h9) rfl d_Ways_follow_1 ?_
  refine lv_iconst (v := 0) hx hb d_Ways_follow_4 (by decide) ?_
  have hPc := hP.sub (ws' := [(re, .inl (cI, 64, .inl fr))]) [4] rfl
  have hDc := hD.sub (ws' := [(re, .inl (cI, 64, .inl fr))]) [4] (by decide) rfl
  have hFc := va_free (wc := [(re, .inl (cI, 64, .inl fr))]) hD hS hA [4] rfl
  refine va_callv (va_runS (As := [.ref re, .int 0]) (rest := []) ⟨hx, hb, hml, hown, hts⟩ (c_Arrays_fill l D cI cZ tN tG s.heap.size re 64 fr 0 (by decide)) (va_cwS 2 hts (gd3 k_160 k_161 k_23 k_162) rfl rfl rfl (by decide +kernel) ⟨Nat.le_of_ble_eq_true rfl, Nat.le_of_ble_eq_true rfl⟩) ⟨MZ_blind, mz_pre hE hZ hS hPc hDc hFc⟩ rfl rfl hl.1 rfl (lv_room (Nat.le_of_ble_eq_true rfl)) d_Ways_follow_5 ⟨Nat.zero_le _, Nat.zero_le _⟩) hS (fun q _ h => hFc q h) hFc (fun u t H1 locs ht hvm hw hB hz1 hk1 hS => ?_)
  obtain ⟨hP1, hD1⟩ := hB
  rw [ht] at hP1
  obtain ⟨hP, hD⟩ := va_join (wr := [(pr, .inr (1, [.int kd, .int sz, .int ac, .ref po, .ref pn])), (po, .inl (cI, 64, .inl fo)), (pn, .inl (cI, 64, .inl fn)), (wy, .inr (2, [.ref re, .ref wa, .int wc])), (wa, .inl (cI, 576, .inl fw))]) (w1 := [(re, .inl (cI, 64, .inl (fun _ => 0)))]) hP hD [4] [0, 1, 2, 3, 5] rfl rfl (by decide) (by decide) hk1 hFc hP1 hD1
  generalize H1 = H at hP hS ⊢
  have hP : va_P D classes [(pr, .inr (1, [.int kd, .int sz, .int ac, .ref po, .ref pn])), (po, .inl (cI, 64, .inl fo)), (pn, .inl (cI, 64, .inl fn)), (wy, .inr (2, [.ref re, .ref wa, .int wc])), (wa, .inl (cI, 576, .inl fw)), (re, .inl (cI, 64, .inl (fun _ => 0)))] H := hP
  have hD : va_D A [(pr, .inr (1, [.int kd, .int sz, .int ac, .ref po, .ref pn])), (po, .inl (cI, 64, .inl fo)), (pn, .inl (cI, 64, .inl fn)), (wy, .inr (2, [.ref re, .ref wa, .int wc])), (wa, .inl (cI, 576, .inl fw)), (re, .inl (cI, 64, .inl (fun _ => 0)))] := hD
  refine lv_aload_n hx hb d_Ways_follow_8 rfl (lv_at hl 0 rfl) ?_
  refine lv_iconst (v := 0) hx hb d_Ways_follow_9 (by decide) ?_
  refine va_put (D := D) (ci := 2) (v := .int 0) (ty := .int) (C := R_Ways) (T := F_Ways) (N := 3) hx hb hts in_Ways t_Ways t_Ways_ok n_Ways hown hE.1 hP hD hS 3 rfl rfl 2 (by decide) (hts _ k_69) (fun _ h9 => h9) rfl (by decide +kernel) rfl rfl (Nat.le_of_ble_eq_true rfl) d_Ways_follow_10 (fun H locs hP hD hS => ?_)
  have hP : va_P D classes [(pr, .inr (1, [.int kd, .int sz, .int ac, .ref po, .ref pn])), (po, .inl (cI, 64, .inl fo)), (pn, .inl (cI, 64, .inl fn)), (wy, .inr (2, [.ref re, .ref wa, .int 0])), (wa, .inl (cI, 576, .inl fw)), (re, .inl (cI, 64, .inl (fun _ => 0)))] H := hP
  have hD : va_D A [(pr, .inr (1, [.int kd, .int sz, .int ac, .ref po, .ref pn])), (po, .inl (cI, 64, .inl fo)), (pn, .inl (cI, 64, .inl fn)), (wy, .inr (2, [.ref re, .ref wa, .int 0])), (wa, .inl (cI, 576, .inl fw)), (re, .inl (cI, 64, .inl (fun _ => 0)))] := hD
  refine lv_aload_n hx hb d_Ways_follow_13 rfl (lv_at hl 0 rfl) ?_
  refine lv_aload_n hx hb d_Ways_follow_14 rfl (lv_at hl 1 rfl) ?_
  refine lv_iconst (v := 0) hx hb d_Ways_follow_15 (by decide) ?_
  refine lv_iconst (v := 0) hx hb d_Ways_follow_16 (by decide) ?_
  have hPc := hP.sub (ws' := [(pr, .inr (1, [.int kd, .int sz, .int ac, .ref po, .ref pn])), (po, .inl (cI, 64, .inl fo)), (pn, .inl (cI, 64, .inl fn)), (wy, .inr (2, [.ref re, .ref wa, .int 0])), (re, .inl (cI, 64, .inl (fun _ => 0))), (wa, .inl (cI, 576, .inl fw))]) [0, 1, 2, 3, 5, 4] rfl
  have hDc := hD.sub (ws' := [(pr, .inr (1, [.int kd, .int sz, .int ac, .ref po, .ref pn])), (po, .inl (cI, 64, .inl fo)), (pn, .inl (cI, 64, .inl fn)), (wy, .inr (2, [.ref re, .ref wa, .int 0])), (re, .inl (cI, 64, .inl (fun _ => 0))), (wa, .inl (cI, 576, .inl fw))]) [0, 1, 2, 3, 5, 4] (by decide) rfl
  have hFc := va_free (wc := [(pr, .inr (1, [.int kd, .int sz, .int ac, .ref po, .ref pn])), (po, .inl (cI, 64, .inl fo)), (pn, .inl (cI, 64, .inl fn)), (wy, .inr (2, [.ref re, .ref wa, .int 0])), (re, .inl (cI, 64, .inl (fun _ => 0))), (wa, .inl (cI, 576, .inl fw))]) hD hS hA [0, 1, 2, 3, 5, 4] rfl
  refine va_callv (va_runV (As := [.ref pr, .int 0, .int 0]) (rest := []) ⟨hx, hb, hml, hown, hts⟩ (c_Ways_reach l D cI cZ tN tG H.size pr po pn kd sz ac fo fn wy re wa (fun _ => 0) fw 0 0 0) (cwV 3 hts (gd4 k_163 k_165 k_0 k_20 k_166) rfl rfl rfl (by decide +kernel) ⟨Nat.le_of_ble_eq_true rfl, Nat.le_of_ble_eq_true rfl⟩) ⟨MZ_blind, va_recv (q0 := 3) (ci := 2) hE.1 hP rfl rfl, mz_pre hE hZ hS hPc hDc hFc⟩ rfl rfl hl.1 rfl (lv_room (Nat.le_of_ble_eq_true rfl)) d_Ways_follow_17 ⟨Nat.zero_le _, Nat.zero_le _⟩) hS (fun q _ h => hFc q h) hFc (fun u t H1 locs ht hvm hw hB hz1 hk1 hS => ?_)
  obtain ⟨hP1, hD1⟩ := hB
  rw [ht] at hP1
  subst hw
  obtain ⟨hP, hD⟩ := va_join (wr := []) (w1 := [(pr, .inr (1, [.int kd, .int sz, .int ac, .ref po, .ref pn])), (po, .inl (cI, 64, .inl fo)), (pn, .inl (cI, 64, .inl fn)), (wy, .inr (2, [.ref re, .ref wa, .int ((w_reach sz 0 0 ((fun _ => 0), fw, 0)).2.2)])), (re, .inl (cI, 64, .inl ((w_reach sz 0 0 ((fun _ => 0), fw, 0)).1))), (wa, .inl (cI, 576, .inl ((w_reach sz 0 0 ((fun _ => 0), fw, 0)).2.1)))]) hP hD [0, 1, 2, 3, 5, 4] [] rfl rfl (by decide) (by decide) hk1 hFc hP1 hD1
  generalize H1 = H at hP hS ⊢
  have hP : va_P D classes [(pr, .inr (1, [.int kd, .int sz, .int ac, .ref po, .ref pn])), (po, .inl (cI, 64, .inl fo)), (pn, .inl (cI, 64, .inl fn)), (wy, .inr (2, [.ref re, .ref wa, .int ((w_reach sz 0 0 ((fun _ => 0), fw, 0)).2.2)])), (re, .inl (cI, 64, .inl ((w_reach sz 0 0 ((fun _ => 0), fw, 0)).1))), (wa, .inl (cI, 576, .inl ((w_reach sz 0 0 ((fun _ => 0), fw, 0)).2.1)))] H := hP
  have hD : va_D A [(pr, .inr (1, [.int kd, .int sz, .int ac, .ref po, .ref pn])), (po, .inl (cI, 64, .inl fo)), (pn, .inl (cI, 64, .inl fn)), (wy, .inr (2, [.ref re, .ref wa, .int ((w_reach sz 0 0 ((fun _ => 0), fw, 0)).2.2)])), (re, .inl (cI, 64, .inl ((w_reach sz 0 0 ((fun _ => 0), fw, 0)).1))), (wa, .inl (cI, 576, .inl ((w_reach sz 0 0 ((fun _ => 0), fw, 0)).2.1)))] := hD
  refine lv_iconst (v := 0) hx hb d_Ways_follow_20 (by decide) ?_
  refine lv_istore_n hx hb d_Ways_follow_21 rfl hl (by decide) rfl (fun ls hl => ?_)
  have hl : lv_has ls 4 [(2, .int 0), (0, .ref wy), (1, .ref pr)] := hl
  have key : ∀ (N : Nat) (j : Nat) (fr1 fw1 : Nat → Int32) (wc1 : Int32) (H : Heap) (locs : List Loc) (ls : Array Slot), j + N = 576 → lv_has ls 4 [(2, .int (nI j)), (0, .ref wy), (1, .ref pr)] → va_P D classes [(pr, .inr (1, [.int kd, .int sz, .int ac, .ref po, .ref pn])), (po, .inl (cI, 64, .inl fo)), (pn, .inl (cI, 64, .inl fn)), (wy, .inr (2, [.ref re, .ref wa, .int wc1])), (re, .inl (cI, 64, .inl fr1)), (wa, .inl (cI, 576, .inl fw1))] H → va_D A [(pr, .inr (1, [.int kd, .int sz, .int ac, .ref po, .ref pn])), (po, .inl (cI, 64, .inl fo)), (pn, .inl (cI, 64, .inl fn)), (wy, .inr (2, [.ref re, .ref wa, .int wc1])), (re, .inl (cI, 64, .inl fr1)), (wa, .inl (cI, 576, .inl fw1))] → w_loop kd sz ac fo fn N (nI j) (fr1, fw1, wc1) = w_follow kd sz ac fo fn fw → va_S A s.heap H locs → W p l e (headSpec w_Ways_follow (rmk 4)).room s m ([.ref wy, .ref pr] : List Value).toArray below meth c H locs 0 0 (MQ below (va_Qv (fun u : WS => u = w_follow kd sz ac fo fn fw) (fun u t => ME D A [(pr, .inr (1, [.int kd, .int sz, .int ac, .ref po, .ref pn])), (po, .inl (cI, 64, .inl fo)), (pn, .inl (cI, 64, .inl fn)), (wy, .inr (2, [.ref re, .ref wa, .int u.2.2])), (re, .inl (cI, 64, .inl u.1)), (wa, .inl (cI, 576, .inl u.2.1))] t) A) ([.ref wy, .ref pr] : List Value).toArray s 0 0 A) (F0 m 22 ls []) := by
    intro N
    induction N with
    | zero =>
      intro j fr1 fw1 wc1 H locs ls hjN hl hP hD hT hS
      refine lv_iload_n hx hb d_Ways_follow_22 rfl (lv_at hl 0 rfl) ?_
      refine lv_aload_n hx hb d_Ways_follow_23 rfl (lv_at hl 1 rfl) ?_
      refine va_get (D := D) (ci := 2) (v := .ref wa) (C := R_Ways) (T := F_Ways) (N := 3) hx hb hts in_Ways hown hE.1 hP 3 rfl rfl 1 (by decide) (hts _ k_68) (fun _ h9 => h9) rfl d_Ways_follow_24 ?_
      refine va_alen (v := (nI 576)) hx hb hE.1 hP 5 0 rfl rfl rfl d_Ways_follow_27 ?_
      refine lv_icmp_ge (tgt := 67) hx hb d_Ways_follow_28 (by decide) (fun h1 => ?_) (fun h1 => ?_)
      · -- (nI 576) ≤ (nI j)
        refine W.vret hx hb hr (fun t ht hW => ⟨⟨(fr1, fw1, wc1), rfl, ?_, ?_⟩, hS.F ht⟩) hS.2.2 d_Ways_follow_67
        · (rw [← hT]; rfl)
        · exact ⟨by rw [ht]; exact hP.sub [0, 1, 2, 3, 4, 5] rfl, hD.sub [0, 1, 2, 3, 4, 5] (by decide) rfl⟩
      · -- ¬ (nI 576) ≤ (nI j)
        exact absurd (nI_le (by omega) (by omega)) h1
    | succ N ih =>
      intro j fr1 fw1 wc1 H locs ls hjN hl hP hD hT hS
      refine lv_iload_n hx hb d_Ways_follow_22 rfl (lv_at hl 0 rfl) ?_
      refine lv_aload_n hx hb d_Ways_follow_23 rfl (lv_at hl 1 rfl) ?_
      refine va_get (D := D) (ci := 2) (v := .ref wa) (C := R_Ways) (T := F_Ways) (N := 3) hx hb hts in_Ways hown hE.1 hP 3 rfl rfl 1 (by decide) (hts _ k_68) (fun _ h9 => h9) rfl d_Ways_follow_24 ?_
      refine va_alen (v := (nI 576)) hx hb hE.1 hP 5 0 rfl rfl rfl d_Ways_follow_27 ?_
      refine lv_icmp_ge (tgt := 67) hx hb d_Ways_follow_28 (by decide) (fun h2 => ?_) (fun h2 => ?_)
      · -- (nI 576) ≤ (nI j)
        exact absurd h2 (nI_ge (by omega) (by omega))
      · -- ¬ (nI 576) ≤ (nI j)
        refine lv_iload_n hx hb d_Ways_follow_31 rfl (lv_at hl 0 rfl) ?_
        refine lv_aload_n hx hb d_Ways_follow_32 rfl (lv_at hl 1 rfl) ?_
        refine va_get (D := D) (ci := 2) (v := .int wc1) (C := R_Ways) (T := F_Ways) (N := 3) hx hb hts in_Ways hown hE.1 hP 3 rfl rfl 2 (by decide) (hts _ k_69) (fun _ h9 => h9) rfl d_Ways_follow_33 ?_
        refine lv_icmp_ge (tgt := 67) hx hb d_Ways_follow_36 (by decide) (fun h3 => ?_) (fun h3 => ?_)
        · -- wc1 ≤ (nI j)
          refine W.vret hx hb hr (fun t ht hW => ⟨⟨(fr1, fw1, wc1), rfl, ?_, ?_⟩, hS.F ht⟩) hS.2.2 d_Ways_follow_67
          · (rw [← hT]; simp only [w_loop, h2, h3, if_true, if_false])
          · exact ⟨by rw [ht]; exact hP.sub [0, 1, 2, 3, 4, 5] rfl, hD.sub [0, 1, 2, 3, 4, 5] (by decide) rfl⟩
        · -- ¬ wc1 ≤ (nI j)
          refine lv_aload_n hx hb d_Ways_follow_39 rfl (lv_at hl 1 rfl) ?_
          refine va_get (D := D) (ci := 2) (v := .ref wa) (C := R_Ways) (T := F_Ways) (N := 3) hx hb hts in_Ways hown hE.1 hP 3 rfl rfl 1 (by decide) (hts _ k_68) (fun _ h9 => h9) rfl d_Ways_follow_40 ?_
          refine lv_iload_n hx hb d_Ways_follow_43 rfl (lv_at hl 0 rfl) ?_
          refine vp_callSi (va_Run.run (va_runSN (As := [.ref wa, .int (nI j)]) (rest := []) ⟨hx, hb, hml, hown, hts⟩ (c_SJ_read l wa 576 fw1 (nI j) (by decide)) ⟨va_cnB 2 hts (gd k_177) rfl rfl rfl (hE.2 _ nm_3) (hts _ k_18) (by decide +kernel) ⟨Nat.le_of_ble_eq_true rfl, Nat.le_of_ble_eq_true rfl⟩, hts _ k_176, trivial⟩ (rp_pre hE.1 hP 5 0 rfl rfl) rfl rfl hl.1 rfl (lv_room (Nat.le_of_ble_eq_true rfl)) d_Ways_follow_44 ⟨Nat.zero_le _, Nat.zero_le _⟩)) (fun r hq => ?_)
          subst hq
          refine lv_istore_n hx hb d_Ways_follow_47 rfl hl (by decide) rfl (fun ls hl => ?_)
          have hl : lv_has ls 4 [(3, .int (rd fw1 576 (nI j))), (2, .int (nI j)), (0, .ref wy), (1, .ref pr)] := hl
          refine lv_aload_n hx hb d_Ways_follow_48 rfl (lv_at hl 2 rfl) ?_
          refine lv_aload_n hx hb d_Ways_follow_49 rfl (lv_at hl 3 rfl) ?_
          refine lv_iload_n hx hb d_Ways_follow_50 rfl (lv_at hl 0 rfl) ?_
          refine lv_bipush (v := 9) hx hb d_Ways_follow_51 (by decide) ?_
          refine lv_idiv hx hb d_Ways_follow_53 (by decide) ?_
          refine lv_iload_n hx hb d_Ways_follow_54 rfl (lv_at hl 0 rfl) ?_
          refine lv_bipush (v := 9) hx hb d_Ways_follow_55 (by decide) ?_
          refine lv_irem hx hb d_Ways_follow_57 (by decide) ?_
          have hPc := hP.sub (ws' := [(pr, .inr (1, [.int kd, .int sz, .int ac, .ref po, .ref pn])), (po, .inl (cI, 64, .inl fo)), (pn, .inl (cI, 64, .inl fn)), (wy, .inr (2, [.ref re, .ref wa, .int wc1])), (re, .inl (cI, 64, .inl fr1)), (wa, .inl (cI, 576, .inl fw1))]) [0, 1, 2, 3, 4, 5] rfl
          have hDc := hD.sub (ws' := [(pr, .inr (1, [.int kd, .int sz, .int ac, .ref po, .ref pn])), (po, .inl (cI, 64, .inl fo)), (pn, .inl (cI, 64, .inl fn)), (wy, .inr (2, [.ref re, .ref wa, .int wc1])), (re, .inl (cI, 64, .inl fr1)), (wa, .inl (cI, 576, .inl fw1))]) [0, 1, 2, 3, 4, 5] (by decide) rfl
          have hFc := va_free (wc := [(pr, .inr (1, [.int kd, .int sz, .int ac, .ref po, .ref pn])), (po, .inl (cI, 64, .inl fo)), (pn, .inl (cI, 64, .inl fn)), (wy, .inr (2, [.ref re, .ref wa, .int wc1])), (re, .inl (cI, 64, .inl fr1)), (wa, .inl (cI, 576, .inl fw1))]) hD hS hA [0, 1, 2, 3, 4, 5] rfl
          refine va_callv (va_runV (As := [.ref pr, .int ((rd fw1 576 (nI j)) / 9), .int ((rd fw1 576 (nI j)) - (rd fw1 576 (nI j)) / 9 * 9)]) (rest := []) ⟨hx, hb, hml, hown, hts⟩ (c_Ways_goOn l D cI cZ tN tG H.size pr po pn kd sz ac fo fn wy re wa fr1 fw1 wc1 ((rd fw1 576 (nI j)) / 9) ((rd fw1 576 (nI j)) - (rd fw1 576 (nI j)) / 9 * 9)) (cwV 3 hts (gd4 k_179 k_181 k_2 k_20 k_182) rfl rfl rfl (by decide +kernel) ⟨Nat.le_of_ble_eq_true rfl, Nat.le_of_ble_eq_true rfl⟩) ⟨MZ_blind, va_recv (q0 := 3) (ci := 2) hE.1 hP rfl rfl, mz_pre hE hZ hS hPc hDc hFc⟩ rfl rfl hl.1 rfl (lv_room (Nat.le_of_ble_eq_true rfl)) d_Ways_follow_58 ⟨Nat.zero_le _, Nat.zero_le _⟩) hS (fun q _ h => hFc q h) hFc (fun u t H1 locs ht hvm hw hB hz1 hk1 hS => ?_)
          obtain ⟨hP1, hD1⟩ := hB
          rw [ht] at hP1
          subst hw
          obtain ⟨hP, hD⟩ := va_join (wr := []) (w1 := [(pr, .inr (1, [.int kd, .int sz, .int ac, .ref po, .ref pn])), (po, .inl (cI, 64, .inl fo)), (pn, .inl (cI, 64, .inl fn)), (wy, .inr (2, [.ref re, .ref wa, .int ((w_goOn kd sz ac fo fn ((rd fw1 576 (nI j)) / 9) ((rd fw1 576 (nI j)) - (rd fw1 576 (nI j)) / 9 * 9) (fr1, fw1, wc1)).2.2)])), (re, .inl (cI, 64, .inl ((w_goOn kd sz ac fo fn ((rd fw1 576 (nI j)) / 9) ((rd fw1 576 (nI j)) - (rd fw1 576 (nI j)) / 9 * 9) (fr1, fw1, wc1)).1))), (wa, .inl (cI, 576, .inl ((w_goOn kd sz ac fo fn ((rd fw1 576 (nI j)) / 9) ((rd fw1 576 (nI j)) - (rd fw1 576 (nI j)) / 9 * 9) (fr1, fw1, wc1)).2.1)))]) hP hD [0, 1, 2, 3, 4, 5] [] rfl rfl (by decide) (by decide) hk1 hFc hP1 hD1
          generalize H1 = H at hP hS ⊢
          have hP : va_P D classes [(pr, .inr (1, [.int kd, .int sz, .int ac, .ref po, .ref pn])), (po, .inl (cI, 64, .inl fo)), (pn, .inl (cI, 64, .inl fn)), (wy, .inr (2, [.ref re, .ref wa, .int ((w_goOn kd sz ac fo fn ((rd fw1 576 (nI j)) / 9) ((rd fw1 576 (nI j)) - (rd fw1 576 (nI j)) / 9 * 9) (fr1, fw1, wc1)).2.2)])), (re, .inl (cI, 64, .inl ((w_goOn kd sz ac fo fn ((rd fw1 576 (nI j)) / 9) ((rd fw1 576 (nI j)) - (rd fw1 576 (nI j)) / 9 * 9) (fr1, fw1, wc1)).1))), (wa, .inl (cI, 576, .inl ((w_goOn kd sz ac fo fn ((rd fw1 576 (nI j)) / 9) ((rd fw1 576 (nI j)) - (rd fw1 576 (nI j)) / 9 * 9) (fr1, fw1, wc1)).2.1)))] H := hP
          have hD : va_D A [(pr, .inr (1, [.int kd, .int sz, .int ac, .ref po, .ref pn])), (po, .inl (cI, 64, .inl fo)), (pn, .inl (cI, 64, .inl fn)), (wy, .inr (2, [.ref re, .ref wa, .int ((w_goOn kd sz ac fo fn ((rd fw1 576 (nI j)) / 9) ((rd fw1 576 (nI j)) - (rd fw1 576 (nI j)) / 9 * 9) (fr1, fw1, wc1)).2.2)])), (re, .inl (cI, 64, .inl ((w_goOn kd sz ac fo fn ((rd fw1 576 (nI j)) / 9) ((rd fw1 576 (nI j)) - (rd fw1 576 (nI j)) / 9 * 9) (fr1, fw1, wc1)).1))), (wa, .inl (cI, 576, .inl ((w_goOn kd sz ac fo fn ((rd fw1 576 (nI j)) / 9) ((rd fw1 576 (nI j)) - (rd fw1 576 (nI j)) / 9 * 9) (fr1, fw1, wc1)).2.1)))] := hD
          refine lv_iinc (v := ((nI j) + 1)) (k := 1) hx hb d_Ways_follow_61 hl rfl rfl (by decide) rfl (fun ls hl => ?_)
          have hl : lv_has ls 4 [(2, .int ((nI j) + 1)), (3, .int (rd fw1 576 (nI j))), (0, .ref wy), (1, .ref pr)] := hl
          refine lv_goto (tgt := 22) hx hb d_Ways_follow_64 (by decide) ?_
          have hl := lv_sub (l' := [(2, .int (nI j + 1)), (0, .ref wy), (1, .ref pr)]) hl [0, 2, 3] rfl
          rw [nI_1] at hl
          exact ih (j + 1) _ _ _ _ _ _ (by omega) hl (hP.sub [0, 1, 2, 3, 4, 5] rfl) (hD.sub [0, 1, 2, 3, 4, 5] (by decide) rfl) (by rw [← hT, ← nI_1]; simp only [w_loop, h2, h3, if_false]) hS
  exact key 576 0 _ _ _ H locs ls rfl (lv_sub hl [0, 1, 2] rfl) (hP.sub [0, 1, 2, 3, 4, 5] rfl) (hD.sub [0, 1, 2, 3, 4, 5] (by decide) rfl) rfl hS
def w_wrong (kd sz ac : Int32) (fo fn fr : Nat → Int32) (k : Int32) : Int32 := if p_wf kd sz ac fo fn k = 0 then 1 else if bitc (rd fr 64 k) ≤ 1 then w_wrongL kd sz ac fo fn fr k 9 0 else 1
def w_first (kd sz ac : Int32) (fo fn fr : Nat → Int32) : Nat → Int32 → Int32
  | 0, _ => -2
  | n + 1, k => if sz ≤ k then -2 else if w_wrong kd sz ac fo fn fr k = 0 then w_first kd sz ac fo fn fr n (k + 1) else k
set_option maxHeartbeats 4000000 in
set_option maxRecDepth 100000 in
theorem c_Ways_isWrong (l : Launch) (D : va_G) (cI cZ : ClassId) (tN tG : Nat) (pr po pn : Nat) (kd sz ac : Int32) (fo fn : Nat → Int32) (wy re wa : Nat) (fr fw : Nat → Int32) (wc : Int32) (k : Int32) : Met l y_Ways_isWrong w_Ways_isWrong (rmk 3) (va_Pc [.ref wy, .ref pr, .int k] (PZ D cI cZ tN tG [(pr, .inr (1, [.int kd, .int sz, .int ac, .ref po, .ref pn])), (po, .inl (cI, 64, .inl fo)), (pn, .inl (cI, 64, .inl fn)), (wy, .inr (2, [.ref re, .ref wa, .int wc])), (re, .inl (cI, 64, .inl fr)), (wa, .inl (cI, 576, .inl fw))])) (vp_Si (fun r => r = w_wrong kd sz ac fo fn fr k)) 0 0 (fun _ => False) := by
  refine Met.ofW (cc := b_Ways_isWrong) (maxL := 4) (ret := (some .boolean)) (by decide) rfl ?_
  intro p e s m args below meth c s₁ B hml hv
  obtain ⟨rfl, hP, hE, hZ⟩ := hv
  have hx := B.exec
  have hb := B.bytes
  have hr := B.returns
  have hts : ∀ w ∈ gW, w.before _ s = true := fun w h => atoms_spec (ws := w_Ways_isWrong) B.pre w (List.mem_cons_of_mem _ h)
  have hown : s.vm.findClass R_Ways = some m.cls := findClass_of_methodNamed B.named
  have hlocks := B.notSynchronized
  have hS : va_S (fun _ => False) s.heap s.heap [] := va_S.rf
  have hP : va_P D classes [(pr, .inr (1, [.int kd, .int sz, .int ac, .ref po, .ref pn])), (po, .inl (cI, 64, .inl fo)), (pn, .inl (cI, 64, .inl fn)), (wy, .inr (2, [.ref re, .ref wa, .int wc])), (re, .inl (cI, 64, .inl fr)), (wa, .inl (cI, 576, .inl fw))] s.heap := hP
  have hl := lv_entry ([.ref wy, .ref pr, .int k]) (n := 4) (Nat.le_of_ble_eq_true rfl)
  rw [lg_entry_eq]
  generalize (lg_sl ([.ref wy, .ref pr, .int k]) ++ List.replicate (4 - (lg_sl ([.ref wy, .ref pr, .int k])).length) Slot.unset).toArray = ls at hl ⊢
  have hl : lv_has ls 4 [(0, .ref wy), (1, .ref pr), (2, .int k)] := hl
  refine lv_aload_n hx hb d_Ways_isWrong_0 rfl (lv_at hl 1 rfl) ?_
  refine lv_iload_n hx hb d_Ways_isWrong_1 rfl (lv_at hl 2 rfl) ?_
  refine vp_callSi (va_Run.run (va_runV (As := [.int k]) (rest := []) ⟨hx, hb, hml, hown, hts⟩ (c_Program_isWellFormed l D cI cZ tN tG pr po pn kd sz ac fo fn k) (cwV 1 hts (gd4 k_236 k_193 k_194 k_19 k_195) rfl rfl rfl (by decide +kernel) ⟨Nat.le_of_ble_eq_true rfl, Nat.le_of_ble_eq_true rfl⟩) ⟨PZ_blind, va_recv (q0 := 0) (ci := 1) hE.1 hP rfl rfl, pz_pre hE hZ hS (hP.sub [0, 1, 2] rfl)⟩ rfl rfl hl.1 rfl (lv_room (Nat.le_of_ble_eq_true rfl)) d_Ways_isWrong_2 ⟨Nat.zero_le _, Nat.zero_le _⟩)) (fun r hq => ?_)
  subst hq
  refine lv_if_eq (tgt := 23) hx hb d_Ways_isWrong_5 (by decide) (fun h1 => ?_) (fun h1 => ?_)
  · -- (p_wf kd sz ac fo fn k) = 0
    refine lv_iconst (v := 1) hx hb d_Ways_isWrong_23 (by decide) ?_
    refine W.zret hx hb hr (by decide) (fun t ht hW => ⟨_, rfl, ?_, ht⟩) (fun q h => by cases h) d_Ways_isWrong_24
    show 1 = w_wrong kd sz ac fo fn fr k
    simp only [w_wrong, h1, if_true, if_false, eq_self, not_true_eq_false, not_false_eq_true, ne_eq]
  · -- ¬ (p_wf kd sz ac fo fn k) = 0
    refine lv_aload_n hx hb d_Ways_isWrong_8 rfl (lv_at hl 0 rfl) ?_
    refine va_get (D := D) (ci := 2) (v := .ref re) (C := R_Ways) (T := F_Ways) (N := 3) hx hb hts in_Ways hown hE.1 hP 3 rfl rfl 0 (by decide) (hts _ k_66) (fun _ h9 => h9) rfl d_Ways_isWrong_9 ?_
    refine lv_iload_n hx hb d_Ways_isWrong_12 rfl (lv_at hl 2 rfl) ?_
    refine vp_callSi (va_Run.run (va_runSN (As := [.ref re, .int k]) (rest := []) ⟨hx, hb, hml, hown, hts⟩ (c_SJ_read l re 64 fr k (by decide)) ⟨va_cnB 2 hts (gd k_177) rfl rfl rfl (hE.2 _ nm_3) (hts _ k_18) (by decide +kernel) ⟨Nat.le_of_ble_eq_true rfl, Nat.le_of_ble_eq_true rfl⟩, hts _ k_176, trivial⟩ (rp_pre hE.1 hP 4 0 rfl rfl) rfl rfl hl.1 rfl (lv_room (Nat.le_of_ble_eq_true rfl)) d_Ways_isWrong_13 ⟨Nat.zero_le _, Nat.zero_le _⟩)) (fun r hq => ?_)
    subst hq
    refine vp_callSi (va_Run.run (va_runS (As := [.int (rd fr 64 k)]) (rest := []) ⟨hx, hb, hml, hown, hts⟩ (c_Integer_bitCount l (rd fr 64 k)) (va_cwS 1 hts (gd3 k_237 k_238 k_25 k_239) rfl rfl rfl (by decide +kernel) ⟨Nat.le_of_ble_eq_true rfl, Nat.le_of_ble_eq_true rfl⟩) ⟨fun _ _ _ _ q => q, fun _ _ _ => ⟨rfl, trivial⟩⟩ rfl rfl hl.1 rfl (lv_room (Nat.le_of_ble_eq_true rfl)) d_Ways_isWrong_16 ⟨Nat.zero_le _, Nat.zero_le _⟩)) (fun r hq => ?_)
    subst hq
    refine lv_iconst (v := 1) hx hb d_Ways_isWrong_19 (by decide) ?_
    refine lv_icmp_le (tgt := 25) hx hb d_Ways_isWrong_20 (by decide) (fun h2 => ?_) (fun h2 => ?_)
    · -- (bitc (rd fr 64 k)) ≤ 1
      refine lv_iconst (v := 0) hx hb d_Ways_isWrong_25 (by decide) ?_
      refine lv_istore_n hx hb d_Ways_isWrong_26 rfl hl (by decide) rfl (fun ls hl => ?_)
      have hl : lv_has ls 4 [(3, .int 0), (0, .ref wy), (1, .ref pr), (2, .int k)] := hl
      have key : ∀ (N : Nat) (j : Nat) (ls : Array Slot), j + N = 9 → lv_has ls 4 [(3, .int (nI j)), (0, .ref wy), (1, .ref pr), (2, .int k)] → w_wrongL kd sz ac fo fn fr k N (nI j) = w_wrong kd sz ac fo fn fr k → W p l e (headSpec w_Ways_isWrong (rmk 3)).room s m ([.ref wy, .ref pr, .int k] : List Value).toArray below meth c s.heap [] 0 0 (MQ below (vp_Si (fun r => r = w_wrong kd sz ac fo fn fr k)) ([.ref wy, .ref pr, .int k] : List Value).toArray s 0 0 (fun _ => False)) (F0 m 27 ls []) := by
        intro N
        induction N with
        | zero =>
          intro j ls hjN hl hT
          refine lv_iload_n hx hb d_Ways_isWrong_27 rfl (lv_at hl 0 rfl) ?_
          refine lv_bipush (v := 9) hx hb d_Ways_isWrong_28 (by decide) ?_
          refine lv_icmp_ge (tgt := 59) hx hb d_Ways_isWrong_30 (by decide) (fun h3 => ?_) (fun h3 => ?_)
          · -- 9 ≤ (nI j)
            refine lv_iconst (v := 0) hx hb d_Ways_isWrong_59 (by decide) ?_
            refine W.zret hx hb hr (by decide) (fun t ht hW => ⟨_, rfl, ?_, ht⟩) (fun q h => by cases h) d_Ways_isWrong_60
            show 0 = w_wrong kd sz ac fo fn fr k
            (rw [← hT]; rfl)
          · -- ¬ 9 ≤ (nI j)
            exact absurd (show (9 : Int32) ≤ nI j from nI_le (a := 9) (by omega) (by omega)) h3
        | succ N ih =>
          intro j ls hjN hl hT
          refine lv_iload_n hx hb d_Ways_isWrong_27 rfl (lv_at hl 0 rfl) ?_
          refine lv_bipush (v := 9) hx hb d_Ways_isWrong_28 (by decide) ?_
          refine lv_icmp_ge (tgt := 59) hx hb d_Ways_isWrong_30 (by decide) (fun h4 => ?_) (fun h4 => ?_)
          · -- 9 ≤ (nI j)
            exact absurd (show nI 9 ≤ nI j from h4) (nI_ge (by omega) (by omega))
          · -- ¬ 9 ≤ (nI j)
            refine lv_aload_n hx hb d_Ways_isWrong_33 rfl (lv_at hl 1 rfl) ?_
            refine lv_iload_n hx hb d_Ways_isWrong_34 rfl (lv_at hl 3 rfl) ?_
            refine lv_iload_n hx hb d_Ways_isWrong_35 rfl (lv_at hl 0 rfl) ?_
            refine vp_callSi (va_Run.run (va_runV (As := [.int k, .int (nI j)]) (rest := []) ⟨hx, hb, hml, hown, hts⟩ (c_Ways_isReached l D cI cZ tN tG wy re wa fr fw wc k (nI j)) (cwV 2 hts (gd4 k_171 k_173 k_1 k_20 k_174) rfl rfl rfl (by decide +kernel) ⟨Nat.le_of_ble_eq_true rfl, Nat.le_of_ble_eq_true rfl⟩) ⟨PZ_blind, va_recv (q0 := 3) (ci := 2) hE.1 hP rfl rfl, pz_pre hE hZ hS (hP.sub [3, 4, 5] rfl)⟩ rfl rfl hl.1 rfl (lv_room (Nat.le_of_ble_eq_true rfl)) d_Ways_isWrong_36 ⟨Nat.zero_le _, Nat.zero_le _⟩)) (fun r hq => ?_)
            subst hq
            refine lv_if_eq (tgt := 53) hx hb d_Ways_isWrong_39 (by decide) (fun h5 => ?_) (fun h5 => ?_)
            · -- (w_isR fr k (nI j)) = 0
              refine lv_iinc (v := ((nI j) + 1)) (k := 0) hx hb d_Ways_isWrong_53 hl rfl rfl (by decide) rfl (fun ls hl => ?_)
              have hl : lv_has ls 4 [(3, .int ((nI j) + 1)), (0, .ref wy), (1, .ref pr), (2, .int k)] := hl
              refine lv_goto (tgt := 27) hx hb d_Ways_isWrong_56 (by decide) ?_
              rw [nI_1] at hl
              exact ih (j + 1) ls (by omega) hl (by rw [← hT, ← nI_1]; simp only [w_wrongL, h4, h5, if_true, if_false])
            · -- ¬ (w_isR fr k (nI j)) = 0
              refine lv_aload_n hx hb d_Ways_isWrong_42 rfl (lv_at hl 2 rfl) ?_
              refine lv_iload_n hx hb d_Ways_isWrong_43 rfl (lv_at hl 3 rfl) ?_
              refine lv_iload_n hx hb d_Ways_isWrong_44 rfl (lv_at hl 0 rfl) ?_
              refine vp_callSi (va_Run.run (va_runV (As := [.int k, .int (nI j)]) (rest := []) ⟨hx, hb, hml, hown, hts⟩ (c_Program_canBeDone l D cI cZ tN tG pr po pn kd sz ac fo fn k (nI j)) (cwV 2 hts (gd4 k_183 k_184 k_185 k_19 k_186) rfl rfl rfl (by decide +kernel) ⟨Nat.le_of_ble_eq_true rfl, Nat.le_of_ble_eq_true rfl⟩) ⟨PZ_blind, va_recv (q0 := 0) (ci := 1) hE.1 hP rfl rfl, pz_pre hE hZ hS (hP.sub [0, 1, 2] rfl)⟩ rfl rfl hl.1 rfl (lv_room (Nat.le_of_ble_eq_true rfl)) d_Ways_isWrong_45 ⟨Nat.zero_le _, Nat.zero_le _⟩)) (fun r hq => ?_)
              subst hq
              refine lv_if_ne (tgt := 53) hx hb d_Ways_isWrong_48 (by decide) (fun h6 => ?_) (fun h6 => ?_)
              · -- ¬ (p_cbd kd sz ac fo fn k (nI j)) = 0
                refine lv_iinc (v := ((nI j) + 1)) (k := 0) hx hb d_Ways_isWrong_53 hl rfl rfl (by decide) rfl (fun ls hl => ?_)
                have hl : lv_has ls 4 [(3, .int ((nI j) + 1)), (0, .ref wy), (1, .ref pr), (2, .int k)] := hl
                refine lv_goto (tgt := 27) hx hb d_Ways_isWrong_56 (by decide) ?_
                rw [nI_1] at hl
                exact ih (j + 1) ls (by omega) hl (by rw [← hT, ← nI_1]; simp only [w_wrongL, h4, h5, h6, if_true, if_false])
              · -- (p_cbd kd sz ac fo fn k (nI j)) = 0
                refine lv_iconst (v := 1) hx hb d_Ways_isWrong_51 (by decide) ?_
                refine W.zret hx hb hr (by decide) (fun t ht hW => ⟨_, rfl, ?_, ht⟩) (fun q h => by cases h) d_Ways_isWrong_52
                show 1 = w_wrong kd sz ac fo fn fr k
                (rw [← hT]; simp only [w_wrongL, h4, h5, h6, if_true, if_false])
      exact key 9 0 ls rfl hl (by simp only [w_wrong, h1, h2, if_true, if_false]; rfl)
    · -- ¬ (bitc (rd fr 64 k)) ≤ 1
      refine lv_iconst (v := 1) hx hb d_Ways_isWrong_23 (by decide) ?_
      refine W.zret hx hb hr (by decide) (fun t ht hW => ⟨_, rfl, ?_, ht⟩) (fun q h => by cases h) d_Ways_isWrong_24
      show 1 = w_wrong kd sz ac fo fn fr k
      simp only [w_wrong, h1, h2, if_true, if_false, eq_self, not_true_eq_false, not_false_eq_true, ne_eq]
set_option maxHeartbeats 4000000 in
set_option maxRecDepth 100000 in
theorem c_Ways_firstWrong (l : Launch) (D : va_G) (cI cZ : ClassId) (tN tG : Nat) (pr po pn : Nat) (kd ac : Int32) (n : Nat) (fo fn : Nat → Int32) (wy re wa : Nat) (fr fw : Nat → Int32) (wc : Int32) (hn : n ≤ 64) : Met l y_Ways_firstWrong w_Ways_firstWrong (rmk 4) (va_Pc [.ref wy, .ref pr] (PZ D cI cZ tN tG [(pr, .inr (1, [.int kd, .int (nI n), .int ac, .ref po, .ref pn])), (po, .inl (cI, 64, .inl fo)), (pn, .inl (cI, 64, .inl fn)), (wy, .inr (2, [.ref re, .ref wa, .int wc])), (re, .inl (cI, 64, .inl fr)), (wa, .inl (cI, 576, .inl fw))])) (vp_Si (fun r => r = w_first kd (nI n) ac fo fn fr n 0)) 0 0 (fun _ => False) := by
  refine Met.ofW (cc := b_Ways_firstWrong) (maxL := 3) (ret := (some .int)) (by decide) rfl ?_
  intro p e s m args below meth c s₁ B hml hv
  obtain ⟨rfl, hP, hE, hZ⟩ := hv
  have hx := B.exec
  have hb := B.bytes
  have hr := B.returns
  have hts : ∀ w ∈ gW, w.before _ s = true := fun w h => atoms_spec (ws := w_Ways_firstWrong) B.pre w (List.mem_cons_of_mem _ h)
  have hown : s.vm.findClass R_Ways = some m.cls := findClass_of_methodNamed B.named
  have hlocks := B.notSynchronized
  have hS : va_S (fun _ => False) s.heap s.heap [] := va_S.rf
  have hP : va_P D classes [(pr, .inr (1, [.int kd, .int (nI n), .int ac, .ref po, .ref pn])), (po, .inl (cI, 64, .inl fo)), (pn, .inl (cI, 64, .inl fn)), (wy, .inr (2, [.ref re, .ref wa, .int wc])), (re, .inl (cI, 64, .inl fr)), (wa, .inl (cI, 576, .inl fw))] s.heap := hP
  have hl := lv_entry ([.ref wy, .ref pr]) (n := 3) (Nat.le_of_ble_eq_true rfl)
  rw [lg_entry_eq]
  generalize (lg_sl ([.ref wy, .ref pr]) ++ List.replicate (3 - (lg_sl ([.ref wy, .ref pr])).length) Slot.unset).toArray = ls at hl ⊢
  have hl : lv_has ls 3 [(0, .ref wy), (1, .ref pr)] := hl
  refine lv_iconst (v := 0) hx hb d_Ways_firstWrong_0 (by decide) ?_
  refine lv_istore_n hx hb d_Ways_firstWrong_1 rfl hl (by decide) rfl (fun ls hl => ?_)
  have hl : lv_has ls 3 [(2, .int 0), (0, .ref wy), (1, .ref pr)] := hl
  have key : ∀ (N : Nat) (j : Nat) (ls : Array Slot), j + N = n → lv_has ls 3 [(2, .int (nI j)), (0, .ref wy), (1, .ref pr)] → w_first kd (nI n) ac fo fn fr N (nI j) = w_first kd (nI n) ac fo fn fr n 0 → W p l e (headSpec w_Ways_firstWrong (rmk 4)).room s m ([.ref wy, .ref pr] : List Value).toArray below meth c s.heap [] 0 0 (MQ below (vp_Si (fun r => r = w_first kd (nI n) ac fo fn fr n 0)) ([.ref wy, .ref pr] : List Value).toArray s 0 0 (fun _ => False)) (F0 m 2 ls []) := by
    intro N
    induction N with
    | zero =>
      intro j ls hjN hl hT
      refine lv_iload_n hx hb d_Ways_firstWrong_2 rfl (lv_at hl 0 rfl) ?_
      refine lv_aload_n hx hb d_Ways_firstWrong_3 rfl (lv_at hl 2 rfl) ?_
      refine va_get (D := D) (ci := 1) (v := .int (nI n)) (C := R_Program) (T := F_Program) (N := 5) hx hb hts in_Program hown hE.1 hP 0 rfl rfl 1 (by decide) (hts _ k_44) (fun _ h9 => h9) rfl d_Ways_firstWrong_4 ?_
      refine lv_icmp_ge (tgt := 27) hx hb d_Ways_firstWrong_7 (by decide) (fun h1 => ?_) (fun h1 => ?_)
      · -- (nI n) ≤ (nI j)
        refine lv_bipush (v := (-2)) hx hb d_Ways_firstWrong_27 (by decide) ?_
        refine W.iret hx hb hr (fun t ht hW => ⟨_, rfl, ?_, ht⟩) (fun q h => by cases h) d_Ways_firstWrong_29
        show (-2) = w_first kd (nI n) ac fo fn fr n 0
        (rw [← hT]; rfl)
      · -- ¬ (nI n) ≤ (nI j)
        exact absurd (nI_le (by omega) (by omega)) h1
    | succ N ih =>
      intro j ls hjN hl hT
      refine lv_iload_n hx hb d_Ways_firstWrong_2 rfl (lv_at hl 0 rfl) ?_
      refine lv_aload_n hx hb d_Ways_firstWrong_3 rfl (lv_at hl 2 rfl) ?_
      refine va_get (D := D) (ci := 1) (v := .int (nI n)) (C := R_Program) (T := F_Program) (N := 5) hx hb hts in_Program hown hE.1 hP 0 rfl rfl 1 (by decide) (hts _ k_44) (fun _ h9 => h9) rfl d_Ways_firstWrong_4 ?_
      refine lv_icmp_ge (tgt := 27) hx hb d_Ways_firstWrong_7 (by decide) (fun h2 => ?_) (fun h2 => ?_)
      · -- (nI n) ≤ (nI j)
        exact absurd h2 (nI_ge (by omega) (by omega))
      · -- ¬ (nI n) ≤ (nI j)
        refine lv_aload_n hx hb d_Ways_firstWrong_10 rfl (lv_at hl 1 rfl) ?_
        refine lv_aload_n hx hb d_Ways_firstWrong_11 rfl (lv_at hl 2 rfl) ?_
        refine lv_iload_n hx hb d_Ways_firstWrong_12 rfl (lv_at hl 0 rfl) ?_
        refine vp_callSi (va_Run.run (va_runV (As := [.ref pr, .int (nI j)]) (rest := []) ⟨hx, hb, hml, hown, hts⟩ (c_Ways_isWrong l D cI cZ tN tG pr po pn kd (nI n) ac fo fn wy re wa fr fw wc (nI j)) (cwV 2 hts (gd4 k_232 k_234 k_4 k_20 k_235) rfl rfl rfl (by decide +kernel) ⟨Nat.le_of_ble_eq_true rfl, Nat.le_of_ble_eq_true rfl⟩) ⟨PZ_blind, va_recv (q0 := 3) (ci := 2) hE.1 hP rfl rfl, pz_pre hE hZ hS (hP.sub [0, 1, 2, 3, 4, 5] rfl)⟩ rfl rfl hl.1 rfl (lv_room (Nat.le_of_ble_eq_true rfl)) d_Ways_firstWrong_13 ⟨Nat.zero_le _, Nat.zero_le _⟩)) (fun r hq => ?_)
        subst hq
        refine lv_if_eq (tgt := 21) hx hb d_Ways_firstWrong_16 (by decide) (fun h3 => ?_) (fun h3 => ?_)
        · -- (w_wrong kd (nI n) ac fo fn fr (nI j)) = 0
          refine lv_iinc (v := ((nI j) + 1)) (k := 0) hx hb d_Ways_firstWrong_21 hl rfl rfl (by decide) rfl (fun ls hl => ?_)
          have hl : lv_has ls 3 [(2, .int ((nI j) + 1)), (0, .ref wy), (1, .ref pr)] := hl
          refine lv_goto (tgt := 2) hx hb d_Ways_firstWrong_24 (by decide) ?_
          rw [nI_1] at hl
          exact ih (j + 1) ls (by omega) hl (by rw [← hT, ← nI_1]; simp only [w_first, h2, h3, if_true, if_false])
        · -- ¬ (w_wrong kd (nI n) ac fo fn fr (nI j)) = 0
          refine lv_iload_n hx hb d_Ways_firstWrong_19 rfl (lv_at hl 0 rfl) ?_
          refine W.iret hx hb hr (fun t ht hW => ⟨_, rfl, ?_, ht⟩) (fun q h => by cases h) d_Ways_firstWrong_20
          show (nI j) = w_first kd (nI n) ac fo fn fr n 0
          (rw [← hT]; simp only [w_first, h2, h3, if_true, if_false])
  exact key n 0 ls (Nat.zero_add n) hl rfl
set_option maxHeartbeats 4000000 in
set_option maxRecDepth 100000 in
theorem c_Machine_begin (l : Launch) (D : va_G) (cI cZ : ClassId) (tN tG : Nat) (hz : Nat) (mc ky vy gy ly sy : Nat) (res stp pcn : Int32) (fk fv fa fl fs : Nat → Int32) (hgt ap : Int32) (x y z : Int32) : Met l y_Machine_begin w_Machine_begin (rmk 1) (va_Pc [.ref mc, .int x, .int y, .int z] (MZ D cI cZ tN tG [(mc, .inr (3, [.int res, .int stp, .int pcn, .ref ky, .ref vy, .ref gy, .ref ly, .ref sy, .int hgt, .int ap])), (ky, .inl (cI, 20, .inl fk)), (vy, .inl (cI, 20, .inl fv)), (gy, .inl (cI, 3, .inl fa)), (ly, .inl (cI, 4, .inl fl)), (sy, .inl (cI, 8, .inl fs))] hz)) (va_Qv (fun _ : Unit => True) (fun u t => ME D (va_A [(mc, .inr (3, [.int res, .int stp, .int pcn, .ref ky, .ref vy, .ref gy, .ref ly, .ref sy, .int hgt, .int ap])), (ky, .inl (cI, 20, .inl fk)), (vy, .inl (cI, 20, .inl fv)), (gy, .inl (cI, 3, .inl fa)), (ly, .inl (cI, 4, .inl fl)), (sy, .inl (cI, 8, .inl fs))] hz) [(mc, .inr (3, [.int 0, .int 0, .int 0, .ref ky, .ref vy, .ref gy, .ref ly, .ref sy, .int 0, .int 0])), (ky, .inl (cI, 20, .inl fk)), (vy, .inl (cI, 20, .inl fv)), (gy, .inl (cI, 3, .inl (wr (wr (wr fa 3 0 x) 3 1 y) 3 2 z))), (ly, .inl (cI, 4, .inl (fun _ => 0))), (sy, .inl (cI, 8, .inl fs))] t) (va_A [(mc, .inr (3, [.int res, .int stp, .int pcn, .ref ky, .ref vy, .ref gy, .ref ly, .ref sy, .int hgt, .int ap])), (ky, .inl (cI, 20, .inl fk)), (vy, .inl (cI, 20, .inl fv)), (gy, .inl (cI, 3, .inl fa)), (ly, .inl (cI, 4, .inl fl)), (sy, .inl (cI, 8, .inl fs))] hz)) 0 0 (va_A [(mc, .inr (3, [.int res, .int stp, .int pcn, .ref ky, .ref vy, .ref gy, .ref ly, .ref sy, .int hgt, .int ap])), (ky, .inl (cI, 20, .inl fk)), (vy, .inl (cI, 20, .inl fv)), (gy, .inl (cI, 3, .inl fa)), (ly, .inl (cI, 4, .inl fl)), (sy, .inl (cI, 8, .inl fs))] hz) := by
  refine Met.ofW (cc := b_Machine_begin) (maxL := 4) (ret := none) (by decide) rfl ?_
  intro p e s m args below meth c s₁ B hml hv
  obtain ⟨rfl, hsz, hP, hE, hD0, hZ⟩ := hv
  have hx := B.exec
  have hb := B.bytes
  have hr := B.returns
  have hts : ∀ w ∈ gW, w.before _ s = true := fun w h => atoms_spec (ws := w_Machine_begin) B.pre w (List.mem_cons_of_mem _ h)
  have hown : s.vm.findClass R_Machine = some m.cls := findClass_of_methodNamed B.named
  have hlocks := B.notSynchronized
  subst hsz
  have hD := hD0.self (sz := s.heap.size)
  have hA : ∀ q : Nat, s.heap.size ≤ q → va_A [(mc, .inr (3, [.int res, .int stp, .int pcn, .ref ky, .ref vy, .ref gy, .ref ly, .ref sy, .int hgt, .int ap])), (ky, .inl (cI, 20, .inl fk)), (vy, .inl (cI, 20, .inl fv)), (gy, .inl (cI, 3, .inl fa)), (ly, .inl (cI, 4, .inl fl)), (sy, .inl (cI, 8, .inl fs))] s.heap.size q := fun q h => Or.inr h
  generalize va_A [(mc, .inr (3, [.int res, .int stp, .int pcn, .ref ky, .ref vy, .ref gy, .ref ly, .ref sy, .int hgt, .int ap])), (ky, .inl (cI, 20, .inl fk)), (vy, .inl (cI, 20, .inl fv)), (gy, .inl (cI, 3, .inl fa)), (ly, .inl (cI, 4, .inl fl)), (sy, .inl (cI, 8, .inl fs))] s.heap.size = A at hD hA hZ ⊢
  have hS : va_S A s.heap s.heap [] := va_S.rf
  have hP : va_P D classes [(mc, .inr (3, [.int res, .int stp, .int pcn, .ref ky, .ref vy, .ref gy, .ref ly, .ref sy, .int hgt, .int ap])), (ky, .inl (cI, 20, .inl fk)), (vy, .inl (cI, 20, .inl fv)), (gy, .inl (cI, 3, .inl fa)), (ly, .inl (cI, 4, .inl fl)), (sy, .inl (cI, 8, .inl fs))] s.heap := hP
  have hD : va_D A [(mc, .inr (3, [.int res, .int stp, .int pcn, .ref ky, .ref vy, .ref gy, .ref ly, .ref sy, .int hgt, .int ap])), (ky, .inl (cI, 20, .inl fk)), (vy, .inl (cI, 20, .inl fv)), (gy, .inl (cI, 3, .inl fa)), (ly, .inl (cI, 4, .inl fl)), (sy, .inl (cI, 8, .inl fs))] := hD
  have hl := lv_entry ([.ref mc, .int x, .int y, .int z]) (n := 4) (Nat.le_of_ble_eq_true rfl)
  rw [lg_entry_eq]
  generalize (lg_sl ([.ref mc, .int x, .int y, .int z]) ++ List.replicate (4 - (lg_sl ([.ref mc, .int x, .int y, .int z])).length) Slot.unset).toArray = ls at hl ⊢
  have hl : lv_has ls 4 [(0, .ref mc), (1, .int x), (2, .int y), (3, .int z)] := hl
  refine lv_aload_n hx hb d_Machine_begin_0 rfl (lv_at hl 0 rfl) ?_
  refine va_get (D := D) (ci := 3) (v := .ref gy) (C := R_Machine) (T := F_Machine) (N := 10) hx hb hts in_Machine hown hE.1 hP 0 rfl rfl 5 (by decide) (hts _ k_93) (fun _ h9 => h9) rfl d_Machine_begin_1 ?_
  refine lv_iconst (v := 0) hx hb d_Machine_begin_4 (by decide) ?_
  refine lv_iload_n hx hb d_Machine_begin_5 rfl (lv_at hl 1 rfl) ?_
  have hPc := hP.sub (ws' := [(gy, .inl (cI, 3, .inl fa))]) [3] rfl
  have hDc := hD.sub (ws' := [(gy, .inl (cI, 3, .inl fa))]) [3] (by decide) rfl
  have hFc := va_free (wc := [(gy, .inl (cI, 3, .inl fa))]) hD hS hA [3] rfl
  refine va_callv (va_runSN (As := [.ref gy, .int 0, .int x]) (rest := []) ⟨hx, hb, hml, hown, hts⟩ (c_SJ_write l D cI cZ tN tG s.heap.size gy 3 fa 0 x (by decide)) ⟨va_cnB 3 hts (gd k_139) rfl rfl rfl (hE.2 _ nm_7) (hts _ k_18) (by decide +kernel) ⟨Nat.le_of_ble_eq_true rfl, Nat.le_of_ble_eq_true rfl⟩, hts _ k_138, trivial⟩ ⟨MZ_blind, mz_pre hE hZ hS hPc hDc hFc⟩ rfl rfl hl.1 rfl (lv_room (Nat.le_of_ble_eq_true rfl)) d_Machine_begin_6 ⟨Nat.zero_le _, Nat.zero_le _⟩) hS (fun q _ h => hFc q h) hFc (fun u t H1 locs ht hvm hw hB hz1 hk1 hS => ?_)
  obtain ⟨hP1, hD1⟩ := hB
  rw [ht] at hP1
  subst hw
  obtain ⟨hP, hD⟩ := va_join (wr := [(mc, .inr (3, [.int res, .int stp, .int pcn, .ref ky, .ref vy, .ref gy, .ref ly, .ref sy, .int hgt, .int ap])), (ky, .inl (cI, 20, .inl fk)), (vy, .inl (cI, 20, .inl fv)), (ly, .inl (cI, 4, .inl fl)), (sy, .inl (cI, 8, .inl fs))]) (w1 := [(gy, .inl (cI, 3, .inl (wr fa 3 0 x)))]) hP hD [3] [0, 1, 2, 4, 5] rfl rfl (by decide) (by decide) hk1 hFc hP1 hD1
  generalize H1 = H at hP hS ⊢
  have hP : va_P D classes [(mc, .inr (3, [.int res, .int stp, .int pcn, .ref ky, .ref vy, .ref gy, .ref ly, .ref sy, .int hgt, .int ap])), (ky, .inl (cI, 20, .inl fk)), (vy, .inl (cI, 20, .inl fv)), (ly, .inl (cI, 4, .inl fl)), (sy, .inl (cI, 8, .inl fs)), (gy, .inl (cI, 3, .inl (wr fa 3 0 x)))] H := hP
  have hD : va_D A [(mc, .inr (3, [.int res, .int stp, .int pcn, .ref ky, .ref vy, .ref gy, .ref ly, .ref sy, .int hgt, .int ap])), (ky, .inl (cI, 20, .inl fk)), (vy, .inl (cI, 20, .inl fv)), (ly, .inl (cI, 4, .inl fl)), (sy, .inl (cI, 8, .inl fs)), (gy, .inl (cI, 3, .inl (wr fa 3 0 x)))] := hD
  refine lv_aload_n hx hb d_Machine_begin_9 rfl (lv_at hl 0 rfl) ?_
  refine va_get (D := D) (ci := 3) (v := .ref gy) (C := R_Machine) (T := F_Machine) (N := 10) hx hb hts in_Machine hown hE.1 hP 0 rfl rfl 5 (by decide) (hts _ k_93) (fun _ h9 => h9) rfl d_Machine_begin_10 ?_
  refine lv_iconst (v := 1) hx hb d_Machine_begin_13 (by decide) ?_
  refine lv_iload_n hx hb d_Machine_begin_14 rfl (lv_at hl 2 rfl) ?_
  have hPc := hP.sub (ws' := [(gy, .inl (cI, 3, .inl (wr fa 3 0 x)))]) [5] rfl
  have hDc := hD.sub (ws' := [(gy, .inl (cI, 3, .inl (wr fa 3 0 x)))]) [5] (by decide) rfl
  have hFc := va_free (wc := [(gy, .inl (cI, 3, .inl (wr fa 3 0 x)))]) hD hS hA [5] rfl
  refine va_callv (va_runSN (As := [.ref gy, .int 1, .int y]) (rest := []) ⟨hx, hb, hml, hown, hts⟩ (c_SJ_write l D cI cZ tN tG H.size gy 3 (wr fa 3 0 x) 1 y (by decide)) ⟨va_cnB 3 hts (gd k_139) rfl rfl rfl (hE.2 _ nm_7) (hts _ k_18) (by decide +kernel) ⟨Nat.le_of_ble_eq_true rfl, Nat.le_of_ble_eq_true rfl⟩, hts _ k_138, trivial⟩ ⟨MZ_blind, mz_pre hE hZ hS hPc hDc hFc⟩ rfl rfl hl.1 rfl (lv_room (Nat.le_of_ble_eq_true rfl)) d_Machine_begin_15 ⟨Nat.zero_le _, Nat.zero_le _⟩) hS (fun q _ h => hFc q h) hFc (fun u t H1 locs ht hvm hw hB hz1 hk1 hS => ?_)
  obtain ⟨hP1, hD1⟩ := hB
  rw [ht] at hP1
  subst hw
  obtain ⟨hP, hD⟩ := va_join (wr := [(mc, .inr (3, [.int res, .int stp, .int pcn, .ref ky, .ref vy, .ref gy, .ref ly, .ref sy, .int hgt, .int ap])), (ky, .inl (cI, 20, .inl fk)), (vy, .inl (cI, 20, .inl fv)), (ly, .inl (cI, 4, .inl fl)), (sy, .inl (cI, 8, .inl fs))]) (w1 := [(gy, .inl (cI, 3, .inl (wr (wr fa 3 0 x) 3 1 y)))]) hP hD [5] [0, 1, 2, 3, 4] rfl rfl (by decide) (by decide) hk1 hFc hP1 hD1
  generalize H1 = H at hP hS ⊢
  have hP : va_P D classes [(mc, .inr (3, [.int res, .int stp, .int pcn, .ref ky, .ref vy, .ref gy, .ref ly, .ref sy, .int hgt, .int ap])), (ky, .inl (cI, 20, .inl fk)), (vy, .inl (cI, 20, .inl fv)), (ly, .inl (cI, 4, .inl fl)), (sy, .inl (cI, 8, .inl fs)), (gy, .inl (cI, 3, .inl (wr (wr fa 3 0 x) 3 1 y)))] H := hP
  have hD : va_D A [(mc, .inr (3, [.int res, .int stp, .int pcn, .ref ky, .ref vy, .ref gy, .ref ly, .ref sy, .int hgt, .int ap])), (ky, .inl (cI, 20, .inl fk)), (vy, .inl (cI, 20, .inl fv)), (ly, .inl (cI, 4, .inl fl)), (sy, .inl (cI, 8, .inl fs)), (gy, .inl (cI, 3, .inl (wr (wr fa 3 0 x) 3 1 y)))] := hD
  refine lv_aload_n hx hb d_Machine_begin_18 rfl (lv_at hl 0 rfl) ?_
  refine va_get (D := D) (ci := 3) (v := .ref gy) (C := R_Machine) (T := F_Machine) (N := 10) hx hb hts in_Machine hown hE.1 hP 0 rfl rfl 5 (by decide) (hts _ k_93) (fun _ h9 => h9) rfl d_Machine_begin_19 ?_
  refine lv_iconst (v := 2) hx hb d_Machine_begin_22 (by decide) ?_
  refine lv_iload_n hx hb d_Machine_begin_23 rfl (lv_at hl 3 rfl) ?_
  have hPc := hP.sub (ws' := [(gy, .inl (cI, 3, .inl (wr (wr fa 3 0 x) 3 1 y)))]) [5] rfl
  have hDc := hD.sub (ws' := [(gy, .inl (cI, 3, .inl (wr (wr fa 3 0 x) 3 1 y)))]) [5] (by decide) rfl
  have hFc := va_free (wc := [(gy, .inl (cI, 3, .inl (wr (wr fa 3 0 x) 3 1 y)))]) hD hS hA [5] rfl
  refine va_callv (va_runSN (As := [.ref gy, .int 2, .int z]) (rest := []) ⟨hx, hb, hml, hown, hts⟩ (c_SJ_write l D cI cZ tN tG H.size gy 3 (wr (wr fa 3 0 x) 3 1 y) 2 z (by decide)) ⟨va_cnB 3 hts (gd k_139) rfl rfl rfl (hE.2 _ nm_7) (hts _ k_18) (by decide +kernel) ⟨Nat.le_of_ble_eq_true rfl, Nat.le_of_ble_eq_true rfl⟩, hts _ k_138, trivial⟩ ⟨MZ_blind, mz_pre hE hZ hS hPc hDc hFc⟩ rfl rfl hl.1 rfl (lv_room (Nat.le_of_ble_eq_true rfl)) d_Machine_begin_24 ⟨Nat.zero_le _, Nat.zero_le _⟩) hS (fun q _ h => hFc q h) hFc (fun u t H1 locs ht hvm hw hB hz1 hk1 hS => ?_)
  obtain ⟨hP1, hD1⟩ := hB
  rw [ht] at hP1
  subst hw
  obtain ⟨hP, hD⟩ := va_join (wr := [(mc, .inr (3, [.int res, .int stp, .int pcn, .ref ky, .ref vy, .ref gy, .ref ly, .ref sy, .int hgt, .int ap])), (ky, .inl (cI, 20, .inl fk)), (vy, .inl (cI, 20, .inl fv)), (ly, .inl (cI, 4, .inl fl)), (sy, .inl (cI, 8, .inl fs))]) (w1 := [(gy, .inl (cI, 3, .inl (wr (wr (wr fa 3 0 x) 3 1 y) 3 2 z)))]) hP hD [5] [0, 1, 2, 3, 4] rfl rfl (by decide) (by decide) hk1 hFc hP1 hD1
  generalize H1 = H at hP hS ⊢
  have hP : va_P D classes [(mc, .inr (3, [.int res, .int stp, .int pcn, .ref ky, .ref vy, .ref gy, .ref ly, .ref sy, .int hgt, .int ap])), (ky, .inl (cI, 20, .inl fk)), (vy, .inl (cI, 20, .inl fv)), (ly, .inl (cI, 4, .inl fl)), (sy, .inl (cI, 8, .inl fs)), (gy, .inl (cI, 3, .inl (wr (wr (wr fa 3 0 x) 3 1 y) 3 2 z)))] H := hP
  have hD : va_D A [(mc, .inr (3, [.int res, .int stp, .int pcn, .ref ky, .ref vy, .ref gy, .ref ly, .ref sy, .int hgt, .int ap])), (ky, .inl (cI, 20, .inl fk)), (vy, .inl (cI, 20, .inl fv)), (ly, .inl (cI, 4, .inl fl)), (sy, .inl (cI, 8, .inl fs)), (gy, .inl (cI, 3, .inl (wr (wr (wr fa 3 0 x) 3 1 y) 3 2 z)))] := hD
  refine lv_aload_n hx hb d_Machine_begin_27 rfl (lv_at hl 0 rfl) ?_
  refine va_get (D := D) (ci := 3) (v := .ref ly) (C := R_Machine) (T := F_Machine) (N := 10) hx hb hts in_Machine hown hE.1 hP 0 rfl rfl 6 (by decide) (hts _ k_94) (fun _ h9 => h9) rfl d_Machine_begin_28 ?_
  refine lv_iconst (v := 0) hx hb d_Machine_begin_31 (by decide) ?_
  have hPc := hP.sub (ws' := [(ly, .inl (cI, 4, .inl fl))]) [3] rfl
  have hDc := hD.sub (ws' := [(ly, .inl (cI, 4, .inl fl))]) [3] (by decide) rfl
  have hFc := va_free (wc := [(ly, .inl (cI, 4, .inl fl))]) hD hS hA [3] rfl
  refine va_callv (va_runS (As := [.ref ly, .int 0]) (rest := []) ⟨hx, hb, hml, hown, hts⟩ (c_Arrays_fill l D cI cZ tN tG H.size ly 4 fl 0 (by decide)) (va_cwS 2 hts (gd3 k_263 k_161 k_23 k_162) rfl rfl rfl (by decide +kernel) ⟨Nat.le_of_ble_eq_true rfl, Nat.le_of_ble_eq_true rfl⟩) ⟨MZ_blind, mz_pre hE hZ hS hPc hDc hFc⟩ rfl rfl hl.1 rfl (lv_room (Nat.le_of_ble_eq_true rfl)) d_Machine_begin_32 ⟨Nat.zero_le _, Nat.zero_le _⟩) hS (fun q _ h => hFc q h) hFc (fun u t H1 locs ht hvm hw hB hz1 hk1 hS => ?_)
  obtain ⟨hP1, hD1⟩ := hB
  rw [ht] at hP1
  obtain ⟨hP, hD⟩ := va_join (wr := [(mc, .inr (3, [.int res, .int stp, .int pcn, .ref ky, .ref vy, .ref gy, .ref ly, .ref sy, .int hgt, .int ap])), (ky, .inl (cI, 20, .inl fk)), (vy, .inl (cI, 20, .inl fv)), (sy, .inl (cI, 8, .inl fs)), (gy, .inl (cI, 3, .inl (wr (wr (wr fa 3 0 x) 3 1 y) 3 2 z)))]) (w1 := [(ly, .inl (cI, 4, .inl (fun _ => 0)))]) hP hD [3] [0, 1, 2, 4, 5] rfl rfl (by decide) (by decide) hk1 hFc hP1 hD1
  generalize H1 = H at hP hS ⊢
  have hP : va_P D classes [(mc, .inr (3, [.int res, .int stp, .int pcn, .ref ky, .ref vy, .ref gy, .ref ly, .ref sy, .int hgt, .int ap])), (ky, .inl (cI, 20, .inl fk)), (vy, .inl (cI, 20, .inl fv)), (sy, .inl (cI, 8, .inl fs)), (gy, .inl (cI, 3, .inl (wr (wr (wr fa 3 0 x) 3 1 y) 3 2 z))), (ly, .inl (cI, 4, .inl (fun _ => 0)))] H := hP
  have hD : va_D A [(mc, .inr (3, [.int res, .int stp, .int pcn, .ref ky, .ref vy, .ref gy, .ref ly, .ref sy, .int hgt, .int ap])), (ky, .inl (cI, 20, .inl fk)), (vy, .inl (cI, 20, .inl fv)), (sy, .inl (cI, 8, .inl fs)), (gy, .inl (cI, 3, .inl (wr (wr (wr fa 3 0 x) 3 1 y) 3 2 z))), (ly, .inl (cI, 4, .inl (fun _ => 0)))] := hD
  refine lv_aload_n hx hb d_Machine_begin_35 rfl (lv_at hl 0 rfl) ?_
  refine lv_iconst (v := 0) hx hb d_Machine_begin_36 (by decide) ?_
  refine va_put (D := D) (ci := 3) (v := .int 0) (ty := .int) (C := R_Machine) (T := F_Machine) (N := 10) hx hb hts in_Machine t_Machine t_Machine_ok n_Machine hown hE.1 hP hD hS 0 rfl rfl 8 (by decide) (hts _ k_96) (fun _ h9 => h9) rfl (by decide +kernel) rfl rfl (Nat.le_of_ble_eq_true rfl) d_Machine_begin_37 (fun H locs hP hD hS => ?_)
  have hP : va_P D classes [(mc, .inr (3, [.int res, .int stp, .int pcn, .ref ky, .ref vy, .ref gy, .ref ly, .ref sy, .int 0, .int ap])), (ky, .inl (cI, 20, .inl fk)), (vy, .inl (cI, 20, .inl fv)), (sy, .inl (cI, 8, .inl fs)), (gy, .inl (cI, 3, .inl (wr (wr (wr fa 3 0 x) 3 1 y) 3 2 z))), (ly, .inl (cI, 4, .inl (fun _ => 0)))] H := hP
  have hD : va_D A [(mc, .inr (3, [.int res, .int stp, .int pcn, .ref ky, .ref vy, .ref gy, .ref ly, .ref sy, .int 0, .int ap])), (ky, .inl (cI, 20, .inl fk)), (vy, .inl (cI, 20, .inl fv)), (sy, .inl (cI, 8, .inl fs)), (gy, .inl (cI, 3, .inl (wr (wr (wr fa 3 0 x) 3 1 y) 3 2 z))), (ly, .inl (cI, 4, .inl (fun _ => 0)))] := hD
  refine lv_aload_n hx hb d_Machine_begin_40 rfl (lv_at hl 0 rfl) ?_
  refine lv_iconst (v := 0) hx hb d_Machine_begin_41 (by decide) ?_
  refine va_put (D := D) (ci := 3) (v := .int 0) (ty := .int) (C := R_Machine) (T := F_Machine) (N := 10) hx hb hts in_Machine t_Machine t_Machine_ok n_Machine hown hE.1 hP hD hS 0 rfl rfl 9 (by decide) (hts _ k_97) (fun _ h9 => h9) rfl (by decide +kernel) rfl rfl (Nat.le_of_ble_eq_true rfl) d_Machine_begin_42 (fun H locs hP hD hS => ?_)
  have hP : va_P D classes [(mc, .inr (3, [.int res, .int stp, .int pcn, .ref ky, .ref vy, .ref gy, .ref ly, .ref sy, .int 0, .int 0])), (ky, .inl (cI, 20, .inl fk)), (vy, .inl (cI, 20, .inl fv)), (sy, .inl (cI, 8, .inl fs)), (gy, .inl (cI, 3, .inl (wr (wr (wr fa 3 0 x) 3 1 y) 3 2 z))), (ly, .inl (cI, 4, .inl (fun _ => 0)))] H := hP
  have hD : va_D A [(mc, .inr (3, [.int res, .int stp, .int pcn, .ref ky, .ref vy, .ref gy, .ref ly, .ref sy, .int 0, .int 0])), (ky, .inl (cI, 20, .inl fk)), (vy, .inl (cI, 20, .inl fv)), (sy, .inl (cI, 8, .inl fs)), (gy, .inl (cI, 3, .inl (wr (wr (wr fa 3 0 x) 3 1 y) 3 2 z))), (ly, .inl (cI, 4, .inl (fun _ => 0)))] := hD
  refine lv_aload_n hx hb d_Machine_begin_45 rfl (lv_at hl 0 rfl) ?_
  refine lv_iconst (v := 0) hx hb d_Machine_begin_46 (by decide) ?_
  refine va_put (D := D) (ci := 3) (v := .int 0) (ty := .int) (C := R_Machine) (T := F_Machine) (N := 10) hx hb hts in_Machine t_Machine t_Machine_ok n_Machine hown hE.1 hP hD hS 0 rfl rfl 0 (by decide) (hts _ k_83) (fun _ h9 => h9) rfl (by decide +kernel) rfl rfl (Nat.le_of_ble_eq_true rfl) d_Machine_begin_47 (fun H locs hP hD hS => ?_)
  have hP : va_P D classes [(mc, .inr (3, [.int 0, .int stp, .int pcn, .ref ky, .ref vy, .ref gy, .ref ly, .ref sy, .int 0, .int 0])), (ky, .inl (cI, 20, .inl fk)), (vy, .inl (cI, 20, .inl fv)), (sy, .inl (cI, 8, .inl fs)), (gy, .inl (cI, 3, .inl (wr (wr (wr fa 3 0 x) 3 1 y) 3 2 z))), (ly, .inl (cI, 4, .inl (fun _ => 0)))] H := hP
  have hD : va_D A [(mc, .inr (3, [.int 0, .int stp, .int pcn, .ref ky, .ref vy, .ref gy, .ref ly, .ref sy, .int 0, .int 0])), (ky, .inl (cI, 20, .inl fk)), (vy, .inl (cI, 20, .inl fv)), (sy, .inl (cI, 8, .inl fs)), (gy, .inl (cI, 3, .inl (wr (wr (wr fa 3 0 x) 3 1 y) 3 2 z))), (ly, .inl (cI, 4, .inl (fun _ => 0)))] := hD
  refine lv_aload_n hx hb d_Machine_begin_50 rfl (lv_at hl 0 rfl) ?_
  refine lv_iconst (v := 0) hx hb d_Machine_begin_51 (by decide) ?_
  refine va_put (D := D) (ci := 3) (v := .int 0) (ty := .int) (C := R_Machine) (T := F_Machine) (N := 10) hx hb hts in_Machine t_Machine t_Machine_ok n_Machine hown hE.1 hP hD hS 0 rfl rfl 1 (by decide) (hts _ k_85) (fun _ h9 => h9) rfl (by decide +kernel) rfl rfl (Nat.le_of_ble_eq_true rfl) d_Machine_begin_52 (fun H locs hP hD hS => ?_)
  have hP : va_P D classes [(mc, .inr (3, [.int 0, .int 0, .int pcn, .ref ky, .ref vy, .ref gy, .ref ly, .ref sy, .int 0, .int 0])), (ky, .inl (cI, 20, .inl fk)), (vy, .inl (cI, 20, .inl fv)), (sy, .inl (cI, 8, .inl fs)), (gy, .inl (cI, 3, .inl (wr (wr (wr fa 3 0 x) 3 1 y) 3 2 z))), (ly, .inl (cI, 4, .inl (fun _ => 0)))] H := hP
  have hD : va_D A [(mc, .inr (3, [.int 0, .int 0, .int pcn, .ref ky, .ref vy, .ref gy, .ref ly, .ref sy, .int 0, .int 0])), (ky, .inl (cI, 20, .inl fk)), (vy, .inl (cI, 20, .inl fv)), (sy, .inl (cI, 8, .inl fs)), (gy, .inl (cI, 3, .inl (wr (wr (wr fa 3 0 x) 3 1 y) 3 2 z))), (ly, .inl (cI, 4, .inl (fun _ => 0)))] := hD
  refine lv_aload_n hx hb d_Machine_begin_55 rfl (lv_at hl 0 rfl) ?_
  refine lv_iconst (v := 0) hx hb d_Machine_begin_56 (by decide) ?_
  refine va_put (D := D) (ci := 3) (v := .int 0) (ty := .int) (C := R_Machine) (T := F_Machine) (N := 10) hx hb hts in_Machine t_Machine t_Machine_ok n_Machine hown hE.1 hP hD hS 0 rfl rfl 2 (by decide) (hts _ k_87) (fun _ h9 => h9) rfl (by decide +kernel) rfl rfl (Nat.le_of_ble_eq_true rfl) d_Machine_begin_57 (fun H locs hP hD hS => ?_)
  have hP : va_P D classes [(mc, .inr (3, [.int 0, .int 0, .int 0, .ref ky, .ref vy, .ref gy, .ref ly, .ref sy, .int 0, .int 0])), (ky, .inl (cI, 20, .inl fk)), (vy, .inl (cI, 20, .inl fv)), (sy, .inl (cI, 8, .inl fs)), (gy, .inl (cI, 3, .inl (wr (wr (wr fa 3 0 x) 3 1 y) 3 2 z))), (ly, .inl (cI, 4, .inl (fun _ => 0)))] H := hP
  have hD : va_D A [(mc, .inr (3, [.int 0, .int 0, .int 0, .ref ky, .ref vy, .ref gy, .ref ly, .ref sy, .int 0, .int 0])), (ky, .inl (cI, 20, .inl fk)), (vy, .inl (cI, 20, .inl fv)), (sy, .inl (cI, 8, .inl fs)), (gy, .inl (cI, 3, .inl (wr (wr (wr fa 3 0 x) 3 1 y) 3 2 z))), (ly, .inl (cI, 4, .inl (fun _ => 0)))] := hD
  refine W.vret hx hb hr (fun t ht hW => ⟨⟨(), rfl, ?_, ?_⟩, hS.F ht⟩) hS.2.2 d_Machine_begin_60
  · trivial
  · exact ⟨by rw [ht]; exact hP.sub [0, 1, 2, 4, 5, 3] rfl, hD.sub [0, 1, 2, 4, 5, 3] (by decide) rfl⟩
set_option maxHeartbeats 4000000 in
set_option maxRecDepth 100000 in
theorem c_Machine_run (l : Launch) (D : va_G) (cI cZ : ClassId) (tN tG : Nat) (hz : Nat) (pr po pn : Nat) (kd sz ac : Int32) (fo fn : Nat → Int32) (mc ky vy gy ly sy : Nat) (res stp pcn : Int32) (fk fv fa fl fs : Nat → Int32) (hgt ap : Int32) (x y z : Int32) : Met l y_Machine_run w_Machine_run (rmk 4) (va_Pc [.ref mc, .ref pr, .int x, .int y, .int z] (MZ D cI cZ tN tG [(pr, .inr (1, [.int kd, .int sz, .int ac, .ref po, .ref pn])), (po, .inl (cI, 64, .inl fo)), (pn, .inl (cI, 64, .inl fn)), (mc, .inr (3, [.int res, .int stp, .int pcn, .ref ky, .ref vy, .ref gy, .ref ly, .ref sy, .int hgt, .int ap])), (ky, .inl (cI, 20, .inl fk)), (vy, .inl (cI, 20, .inl fv)), (gy, .inl (cI, 3, .inl fa)), (ly, .inl (cI, 4, .inl fl)), (sy, .inl (cI, 8, .inl fs))] hz)) (va_Qi (fun (r : Int32) (u : MS) => (r, u) = m_run kd fo fn x y z (res, stp, pcn, fk, fv, fa, fl, fs, hgt, ap)) (fun u t => ME D (va_A [(pr, .inr (1, [.int kd, .int sz, .int ac, .ref po, .ref pn])), (po, .inl (cI, 64, .inl fo)), (pn, .inl (cI, 64, .inl fn)), (mc, .inr (3, [.int res, .int stp, .int pcn, .ref ky, .ref vy, .ref gy, .ref ly, .ref sy, .int hgt, .int ap])), (ky, .inl (cI, 20, .inl fk)), (vy, .inl (cI, 20, .inl fv)), (gy, .inl (cI, 3, .inl fa)), (ly, .inl (cI, 4, .inl fl)), (sy, .inl (cI, 8, .inl fs))] hz) [(pr, .inr (1, [.int kd, .int sz, .int ac, .ref po, .ref pn])), (po, .inl (cI, 64, .inl fo)), (pn, .inl (cI, 64, .inl fn)), (mc, .inr (3, [.int u.1, .int u.2.1, .int u.2.2.1, .ref ky, .ref vy, .ref gy, .ref ly, .ref sy, .int u.2.2.2.2.2.2.2.2.1, .int u.2.2.2.2.2.2.2.2.2])), (ky, .inl (cI, 20, .inl u.2.2.2.1)), (vy, .inl (cI, 20, .inl u.2.2.2.2.1)), (gy, .inl (cI, 3, .inl u.2.2.2.2.2.1)), (ly, .inl (cI, 4, .inl u.2.2.2.2.2.2.1)), (sy, .inl (cI, 8, .inl u.2.2.2.2.2.2.2.1))] t) (va_A [(pr, .inr (1, [.int kd, .int sz, .int ac, .ref po, .ref pn])), (po, .inl (cI, 64, .inl fo)), (pn, .inl (cI, 64, .inl fn)), (mc, .inr (3, [.int res, .int stp, .int pcn, .ref ky, .ref vy, .ref gy, .ref ly, .ref sy, .int hgt, .int ap])), (ky, .inl (cI, 20, .inl fk)), (vy, .inl (cI, 20, .inl fv)), (gy, .inl (cI, 3, .inl fa)), (ly, .inl (cI, 4, .inl fl)), (sy, .inl (cI, 8, .inl fs))] hz)) 0 0 (va_A [(pr, .inr (1, [.int kd, .int sz, .int ac, .ref po, .ref pn])), (po, .inl (cI, 64, .inl fo)), (pn, .inl (cI, 64, .inl fn)), (mc, .inr (3, [.int res, .int stp, .int pcn, .ref ky, .ref vy, .ref gy, .ref ly, .ref sy, .int hgt, .int ap])), (ky, .inl (cI, 20, .inl fk)), (vy, .inl (cI, 20, .inl fv)), (gy, .inl (cI, 3, .inl fa)), (ly, .inl (cI, 4, .inl fl)), (sy, .inl (cI, 8, .inl fs))] hz) := by
  refine Met.ofW (cc := b_Machine_run) (maxL := 7) (ret := (some .int)) (by decide) rfl ?_
  intro p e s m args below meth c s₁ B hml hv
  obtain ⟨rfl, hsz, hP, hE, hD0, hZ⟩ := hv
  have hx := B.exec
  have hb := B.bytes
  have hr := B.returns
  have hts : ∀ w ∈ gW, w.before _ s = true := fun w h => atoms_spec (ws := w_Machine_run) B.pre w (List.mem_cons_of_mem _ h)
  have hown : s.vm.findClass R_Machine = some m.cls := findClass_of_methodNamed B.named
  have hlocks := B.notSynchronized
  subst hsz
  have hD := hD0.self (sz := s.heap.size)
  have hA : ∀ q : Nat, s.heap.size ≤ q → va_A [(pr, .inr (1, [.int kd, .int sz, .int ac, .ref po, .ref pn])), (po, .inl (cI, 64, .inl fo)), (pn, .inl (cI, 64, .inl fn)), (mc, .inr (3, [.int res, .int stp, .int pcn, .ref ky, .ref vy, .ref gy, .ref ly, .ref sy, .int hgt, .int ap])), (ky, .inl (cI, 20, .inl fk)), (vy, .inl (cI, 20, .inl fv)), (gy, .inl (cI, 3, .inl fa)), (ly, .inl (cI, 4, .inl fl)), (sy, .inl (cI, 8, .inl fs))] s.heap.size q := fun q h => Or.inr h
  generalize va_A [(pr, .inr (1, [.int kd, .int sz, .int ac, .ref po, .ref pn])), (po, .inl (cI, 64, .inl fo)), (pn, .inl (cI, 64, .inl fn)), (mc, .inr (3, [.int res, .int stp, .int pcn, .ref ky, .ref vy, .ref gy, .ref ly, .ref sy, .int hgt, .int ap])), (ky, .inl (cI, 20, .inl fk)), (vy, .inl (cI, 20, .inl fv)), (gy, .inl (cI, 3, .inl fa)), (ly, .inl (cI, 4, .inl fl)), (sy, .inl (cI, 8, .inl fs))] s.heap.size = A at hD hA hZ ⊢
  have hS : va_S A s.heap s.heap [] := va_S.rf
  have hP : va_P D classes [(pr, .inr (1, [.int kd, .int sz, .int ac, .ref po, .ref pn])), (po, .inl (cI, 64, .inl fo)), (pn, .inl (cI, 64, .inl fn)), (mc, .inr (3, [.int res, .int stp, .int pcn, .ref ky, .ref vy, .ref gy, .ref ly, .ref sy, .int hgt, .int ap])), (ky, .inl (cI, 20, .inl fk)), (vy, .inl (cI, 20, .inl fv)), (gy, .inl (cI, 3, .inl fa)), (ly, .inl (cI, 4, .inl fl)), (sy, .inl (cI, 8, .inl fs))] s.heap := hP
  have hD : va_D A [(pr, .inr (1, [.int kd, .int sz, .int ac, .ref po, .ref pn])), (po, .inl (cI, 64, .inl fo)), (pn, .inl (cI, 64, .inl fn)), (mc, .inr (3, [.int res, .int stp, .int pcn, .ref ky, .ref vy, .ref gy, .ref ly, .ref sy, .int hgt, .int ap])), (ky, .inl (cI, 20, .inl fk)), (vy, .inl (cI, 20, .inl fv)), (gy, .inl (cI, 3, .inl fa)), (ly, .inl (cI, 4, .inl fl)), (sy, .inl (cI, 8, .inl fs))] := hD
  have hl := lv_entry ([.ref mc, .ref pr, .int x, .int y, .int z]) (n := 7) (Nat.le_of_ble_eq_true rfl)
  rw [lg_entry_eq]
  generalize (lg_sl ([.ref mc, .ref pr, .int x, .int y, .int z]) ++ List.replicate (7 - (lg_sl ([.ref mc, .ref pr, .int x, .int y, .int z])).length) Slot.unset).toArray = ls at hl ⊢
  have hl : lv_has ls 7 [(0, .ref mc), (1, .ref pr), (2, .int x), (3, .int y), (4, .int z)] := hl
  refine lv_aload_n hx hb d_Machine_run_0 rfl (lv_at hl 0 rfl) ?_
  refine lv_iload_n hx hb d_Machine_run_1 rfl (lv_at hl 2 rfl) ?_
  refine lv_iload_n hx hb d_Machine_run_2 rfl (lv_at hl 3 rfl) ?_
  refine lv_iload hx hb d_Machine_run_3 (lv_at hl 4 rfl) ?_
  have hPc := hP.sub (ws' := [(mc, .inr (3, [.int res, .int stp, .int pcn, .ref ky, .ref vy, .ref gy, .ref ly, .ref sy, .int hgt, .int ap])), (ky, .inl (cI, 20, .inl fk)), (vy, .inl (cI, 20, .inl fv)), (gy, .inl (cI, 3, .inl fa)), (ly, .inl (cI, 4, .inl fl)), (sy, .inl (cI, 8, .inl fs))]) [3, 4, 5, 6, 7, 8] rfl
  have hDc := hD.sub (ws' := [(mc, .inr (3, [.int res, .int stp, .int pcn, .ref ky, .ref vy, .ref gy, .ref ly, .ref sy, .int hgt, .int ap])), (ky, .inl (cI, 20, .inl fk)), (vy, .inl (cI, 20, .inl fv)), (gy, .inl (cI, 3, .inl fa)), (ly, .inl (cI, 4, .inl fl)), (sy, .inl (cI, 8, .inl fs))]) [3, 4, 5, 6, 7, 8] (by decide) rfl
  have hFc := va_free (wc := [(mc, .inr (3, [.int res, .int stp, .int pcn, .ref ky, .ref vy, .ref gy, .ref ly, .ref sy, .int hgt, .int ap])), (ky, .inl (cI, 20, .inl fk)), (vy, .inl (cI, 20, .inl fv)), (gy, .inl (cI, 3, .inl fa)), (ly, .inl (cI, 4, .inl fl)), (sy, .inl (cI, 8, .inl fs))]) hD hS hA [3, 4, 5, 6, 7, 8] rfl
  refine va_callv (va_runV (As := [.int x, .int y, .int z]) (rest := []) ⟨hx, hb, hml, hown, hts⟩ (c_Machine_begin l D cI cZ tN tG s.heap.size mc ky vy gy ly sy res stp pcn fk fv fa fl fs hgt ap x y z) (cwV 3 hts (gd4 k_258 k_260 k_5 k_21 k_261) rfl rfl rfl (by decide +kernel) ⟨Nat.le_of_ble_eq_true rfl, Nat.le_of_ble_eq_true rfl⟩) ⟨MZ_blind, va_recv (q0 := 3) (ci := 3) hE.1 hP rfl rfl, mz_pre hE hZ hS hPc hDc hFc⟩ rfl rfl hl.1 rfl (lv_room (Nat.le_of_ble_eq_true rfl)) d_Machine_run_5 ⟨Nat.zero_le _, Nat.zero_le _⟩) hS (fun q _ h => hFc q h) hFc (fun u t H1 locs ht hvm hw hB hz1 hk1 hS => ?_)
  obtain ⟨hP1, hD1⟩ := hB
  rw [ht] at hP1
  obtain ⟨hP, hD⟩ := va_join (wr := [(pr, .inr (1, [.int kd, .int sz, .int ac, .ref po, .ref pn])), (po, .inl (cI, 64, .inl fo)), (pn, .inl (cI, 64, .inl fn))]) (w1 := [(mc, .inr (3, [.int 0, .int 0, .int 0, .ref ky, .ref vy, .ref gy, .ref ly, .ref sy, .int 0, .int 0])), (ky, .inl (cI, 20, .inl fk)), (vy, .inl (cI, 20, .inl fv)), (gy, .inl (cI, 3, .inl (wr (wr (wr fa 3 0 x) 3 1 y) 3 2 z))), (ly, .inl (cI, 4, .inl (fun _ => 0))), (sy, .inl (cI, 8, .inl fs))]) hP hD [3, 4, 5, 6, 7, 8] [0, 1, 2] rfl rfl (by decide) (by decide) hk1 hFc hP1 hD1
  generalize H1 = H at hP hS ⊢
  have hP : va_P D classes [(pr, .inr (1, [.int kd, .int sz, .int ac, .ref po, .ref pn])), (po, .inl (cI, 64, .inl fo)), (pn, .inl (cI, 64, .inl fn)), (mc, .inr (3, [.int 0, .int 0, .int 0, .ref ky, .ref vy, .ref gy, .ref ly, .ref sy, .int 0, .int 0])), (ky, .inl (cI, 20, .inl fk)), (vy, .inl (cI, 20, .inl fv)), (gy, .inl (cI, 3, .inl (wr (wr (wr fa 3 0 x) 3 1 y) 3 2 z))), (ly, .inl (cI, 4, .inl (fun _ => 0))), (sy, .inl (cI, 8, .inl fs))] H := hP
  have hD : va_D A [(pr, .inr (1, [.int kd, .int sz, .int ac, .ref po, .ref pn])), (po, .inl (cI, 64, .inl fo)), (pn, .inl (cI, 64, .inl fn)), (mc, .inr (3, [.int 0, .int 0, .int 0, .ref ky, .ref vy, .ref gy, .ref ly, .ref sy, .int 0, .int 0])), (ky, .inl (cI, 20, .inl fk)), (vy, .inl (cI, 20, .inl fv)), (gy, .inl (cI, 3, .inl (wr (wr (wr fa 3 0 x) 3 1 y) 3 2 z))), (ly, .inl (cI, 4, .inl (fun _ => 0))), (sy, .inl (cI, 8, .inl fs))] := hD
  refine lv_iconst (v := 3) hx hb d_Machine_run_8 (by decide) ?_
  refine lv_istore hx hb d_Machine_run_9 hl (by decide) rfl (fun ls hl => ?_)
  have hl : lv_has ls 7 [(5, .int 3), (0, .ref mc), (1, .ref pr), (2, .int x), (3, .int y), (4, .int z)] := hl
  refine lv_iconst (v := 0) hx hb d_Machine_run_11 (by decide) ?_
  refine lv_istore hx hb d_Machine_run_12 hl (by decide) rfl (fun ls hl => ?_)
  have hl : lv_has ls 7 [(6, .int 0), (5, .int 3), (0, .ref mc), (1, .ref pr), (2, .int x), (3, .int y), (4, .int z)] := hl
  have key : ∀ (N : Nat) (j : Nat) (o1 res1 stp1 pcn1 : Int32) (fk1 fv1 fa1 fl1 fs1 : Nat → Int32) (hgt1 ap1 : Int32) (H : Heap) (locs : List Loc) (ls : Array Slot), j + N = 300 → lv_has ls 7 [(6, .int (nI j)), (5, .int o1), (0, .ref mc), (1, .ref pr)] → va_P D classes [(pr, .inr (1, [.int kd, .int sz, .int ac, .ref po, .ref pn])), (po, .inl (cI, 64, .inl fo)), (pn, .inl (cI, 64, .inl fn)), (mc, .inr (3, [.int res1, .int stp1, .int pcn1, .ref ky, .ref vy, .ref gy, .ref ly, .ref sy, .int hgt1, .int ap1])), (ky, .inl (cI, 20, .inl fk1)), (vy, .inl (cI, 20, .inl fv1)), (gy, .inl (cI, 3, .inl fa1)), (ly, .inl (cI, 4, .inl fl1)), (sy, .inl (cI, 8, .inl fs1))] H → va_D A [(pr, .inr (1, [.int kd, .int sz, .int ac, .ref po, .ref pn])), (po, .inl (cI, 64, .inl fo)), (pn, .inl (cI, 64, .inl fn)), (mc, .inr (3, [.int res1, .int stp1, .int pcn1, .ref ky, .ref vy, .ref gy, .ref ly, .ref sy, .int hgt1, .int ap1])), (ky, .inl (cI, 20, .inl fk1)), (vy, .inl (cI, 20, .inl fv1)), (gy, .inl (cI, 3, .inl fa1)), (ly, .inl (cI, 4, .inl fl1)), (sy, .inl (cI, 8, .inl fs1))] → m_fin (m_loop kd fo fn N o1 (res1, stp1, pcn1, fk1, fv1, fa1, fl1, fs1, hgt1, ap1)) = m_run kd fo fn x y z (res, stp, pcn, fk, fv, fa, fl, fs, hgt, ap) → va_S A s.heap H locs → W p l e (headSpec w_Machine_run (rmk 4)).room s m ([.ref mc, .ref pr, .int x, .int y, .int z] : List Value).toArray below meth c H locs 0 0 (MQ below (va_Qi (fun (r : Int32) (u : MS) => (r, u) = m_run kd fo fn x y z (res, stp, pcn, fk, fv, fa, fl, fs, hgt, ap)) (fun u t => ME D A [(pr, .inr (1, [.int kd, .int sz, .int ac, .ref po, .ref pn])), (po, .inl (cI, 64, .inl fo)), (pn, .inl (cI, 64, .inl fn)), (mc, .inr (3, [.int u.1, .int u.2.1, .int u.2.2.1, .ref ky, .ref vy, .ref gy, .ref ly, .ref sy, .int u.2.2.2.2.2.2.2.2.1, .int u.2.2.2.2.2.2.2.2.2])), (ky, .inl (cI, 20, .inl u.2.2.2.1)), (vy, .inl (cI, 20, .inl u.2.2.2.2.1)), (gy, .inl (cI, 3, .inl u.2.2.2.2.2.1)), (ly, .inl (cI, 4, .inl u.2.2.2.2.2.2.1)), (sy, .inl (cI, 8, .inl u.2.2.2.2.2.2.2.1))] t) A) ([.ref mc, .ref pr, .int x, .int y, .int z] : List Value).toArray s 0 0 A) (F0 m 14 ls []) := by
    intro N
    induction N with
    | zero =>
      intro j o1 res1 stp1 pcn1 fk1 fv1 fa1 fl1 fs1 hgt1 ap1 H locs ls hjN hl hP hD hT hS
      refine lv_iload hx hb d_Machine_run_14 (lv_at hl 0 rfl) ?_
      refine lv_sipush (v := 300) hx hb d_Machine_run_16 (by decide) ?_
      refine lv_icmp_ge (tgt := 70) hx hb d_Machine_run_19 (by decide) (fun h1 => ?_) (fun h1 => ?_)
      · -- 300 ≤ (nI j)
        refine lv_iload hx hb d_Machine_run_70 (lv_at hl 1 rfl) ?_
        refine lv_iconst (v := 3) hx hb d_Machine_run_72 (by decide) ?_
        refine lv_icmp_eq (tgt := 82) hx hb d_Machine_run_73 (by decide) (fun h2 => ?_) (fun h2 => ?_)
        · -- o1 = 3
          refine lv_aload_n hx hb d_Machine_run_82 rfl (lv_at hl 2 rfl) ?_
          refine lv_iconst (v := 0) hx hb d_Machine_run_83 (by decide) ?_
          refine va_put (D := D) (ci := 3) (v := .int 0) (ty := .int) (C := R_Machine) (T := F_Machine) (N := 10) hx hb hts in_Machine t_Machine t_Machine_ok n_Machine hown hE.1 hP hD hS 3 rfl rfl 2 (by decide) (hts _ k_87) (fun _ h9 => h9) rfl (by decide +kernel) rfl rfl (Nat.le_of_ble_eq_true rfl) d_Machine_run_84 (fun H locs hP hD hS => ?_)
          have hP : va_P D classes [(pr, .inr (1, [.int kd, .int sz, .int ac, .ref po, .ref pn])), (po, .inl (cI, 64, .inl fo)), (pn, .inl (cI, 64, .inl fn)), (mc, .inr (3, [.int res1, .int stp1, .int 0, .ref ky, .ref vy, .ref gy, .ref ly, .ref sy, .int hgt1, .int ap1])), (ky, .inl (cI, 20, .inl fk1)), (vy, .inl (cI, 20, .inl fv1)), (gy, .inl (cI, 3, .inl fa1)), (ly, .inl (cI, 4, .inl fl1)), (sy, .inl (cI, 8, .inl fs1))] H := hP
          have hD : va_D A [(pr, .inr (1, [.int kd, .int sz, .int ac, .ref po, .ref pn])), (po, .inl (cI, 64, .inl fo)), (pn, .inl (cI, 64, .inl fn)), (mc, .inr (3, [.int res1, .int stp1, .int 0, .ref ky, .ref vy, .ref gy, .ref ly, .ref sy, .int hgt1, .int ap1])), (ky, .inl (cI, 20, .inl fk1)), (vy, .inl (cI, 20, .inl fv1)), (gy, .inl (cI, 3, .inl fa1)), (ly, .inl (cI, 4, .inl fl1)), (sy, .inl (cI, 8, .inl fs1))] := hD
          refine lv_iconst (v := 2) hx hb d_Machine_run_87 (by decide) ?_
          refine W.iret hx hb hr (fun t ht hW => ⟨⟨2, (res1, stp1, 0, fk1, fv1, fa1, fl1, fs1, hgt1, ap1), rfl, ?_, ?_⟩, hS.F ht⟩) hS.2.2 d_Machine_run_88
          · (rw [← hT]; simp only [m_loop, m_fin, h2, if_true, if_false, eq_self, not_true_eq_false, not_false_eq_true, ne_eq]; first | rfl | done)
          · exact ⟨by rw [ht]; exact hP.sub [0, 1, 2, 3, 4, 5, 6, 7, 8] rfl, hD.sub [0, 1, 2, 3, 4, 5, 6, 7, 8] (by decide) rfl⟩
        · -- ¬ o1 = 3
          refine lv_iload hx hb d_Machine_run_76 (lv_at hl 1 rfl) ?_
          refine lv_iconst (v := 2) hx hb d_Machine_run_78 (by decide) ?_
          refine lv_icmp_ne (tgt := 89) hx hb d_Machine_run_79 (by decide) (fun h3 => ?_) (fun h3 => ?_)
          · -- ¬ o1 = 2
            refine lv_iload hx hb d_Machine_run_89 (lv_at hl 1 rfl) ?_
            refine W.iret hx hb hr (fun t ht hW => ⟨⟨o1, (res1, stp1, pcn1, fk1, fv1, fa1, fl1, fs1, hgt1, ap1), rfl, ?_, ?_⟩, hS.F ht⟩) hS.2.2 d_Machine_run_91
            · (rw [← hT]; simp only [m_loop, m_fin, h2, h3, if_true, if_false, eq_self, not_true_eq_false, not_false_eq_true, ne_eq]; first | rfl | done)
            · exact ⟨by rw [ht]; exact hP.sub [0, 1, 2, 3, 4, 5, 6, 7, 8] rfl, hD.sub [0, 1, 2, 3, 4, 5, 6, 7, 8] (by decide) rfl⟩
          · -- o1 = 2
            refine lv_aload_n hx hb d_Machine_run_82 rfl (lv_at hl 2 rfl) ?_
            refine lv_iconst (v := 0) hx hb d_Machine_run_83 (by decide) ?_
            refine va_put (D := D) (ci := 3) (v := .int 0) (ty := .int) (C := R_Machine) (T := F_Machine) (N := 10) hx hb hts in_Machine t_Machine t_Machine_ok n_Machine hown hE.1 hP hD hS 3 rfl rfl 2 (by decide) (hts _ k_87) (fun _ h9 => h9) rfl (by decide +kernel) rfl rfl (Nat.le_of_ble_eq_true rfl) d_Machine_run_84 (fun H locs hP hD hS => ?_)
            have hP : va_P D classes [(pr, .inr (1, [.int kd, .int sz, .int ac, .ref po, .ref pn])), (po, .inl (cI, 64, .inl fo)), (pn, .inl (cI, 64, .inl fn)), (mc, .inr (3, [.int res1, .int stp1, .int 0, .ref ky, .ref vy, .ref gy, .ref ly, .ref sy, .int hgt1, .int ap1])), (ky, .inl (cI, 20, .inl fk1)), (vy, .inl (cI, 20, .inl fv1)), (gy, .inl (cI, 3, .inl fa1)), (ly, .inl (cI, 4, .inl fl1)), (sy, .inl (cI, 8, .inl fs1))] H := hP
            have hD : va_D A [(pr, .inr (1, [.int kd, .int sz, .int ac, .ref po, .ref pn])), (po, .inl (cI, 64, .inl fo)), (pn, .inl (cI, 64, .inl fn)), (mc, .inr (3, [.int res1, .int stp1, .int 0, .ref ky, .ref vy, .ref gy, .ref ly, .ref sy, .int hgt1, .int ap1])), (ky, .inl (cI, 20, .inl fk1)), (vy, .inl (cI, 20, .inl fv1)), (gy, .inl (cI, 3, .inl fa1)), (ly, .inl (cI, 4, .inl fl1)), (sy, .inl (cI, 8, .inl fs1))] := hD
            refine lv_iconst (v := 2) hx hb d_Machine_run_87 (by decide) ?_
            refine W.iret hx hb hr (fun t ht hW => ⟨⟨2, (res1, stp1, 0, fk1, fv1, fa1, fl1, fs1, hgt1, ap1), rfl, ?_, ?_⟩, hS.F ht⟩) hS.2.2 d_Machine_run_88
            · (rw [← hT]; simp only [m_loop, m_fin, h2, h3, if_true, if_false, eq_self, not_true_eq_false, not_false_eq_true, ne_eq]; first | rfl | done)
            · exact ⟨by rw [ht]; exact hP.sub [0, 1, 2, 3, 4, 5, 6, 7, 8] rfl, hD.sub [0, 1, 2, 3, 4, 5, 6, 7, 8] (by decide) rfl⟩
      · -- ¬ 300 ≤ (nI j)
        exact absurd (show nI 300 ≤ nI j from nI_le (by omega) (by omega)) h1
    | succ N ih =>
      intro j o1 res1 stp1 pcn1 fk1 fv1 fa1 fl1 fs1 hgt1 ap1 H locs ls hjN hl hP hD hT hS
      refine lv_iload hx hb d_Machine_run_14 (lv_at hl 0 rfl) ?_
      refine lv_sipush (v := 300) hx hb d_Machine_run_16 (by decide) ?_
      refine lv_icmp_ge (tgt := 70) hx hb d_Machine_run_19 (by decide) (fun h4 => ?_) (fun h4 => ?_)
      · -- 300 ≤ (nI j)
        exact absurd (show nI 300 ≤ nI j from h4) (nI_ge (by omega) (by omega))
      · -- ¬ 300 ≤ (nI j)
        refine lv_iload hx hb d_Machine_run_22 (lv_at hl 1 rfl) ?_
        refine lv_iconst (v := 3) hx hb d_Machine_run_24 (by decide) ?_
        refine lv_icmp_ne (tgt := 70) hx hb d_Machine_run_25 (by decide) (fun h5 => ?_) (fun h5 => ?_)
        · -- ¬ o1 = 3
          refine lv_iload hx hb d_Machine_run_70 (lv_at hl 1 rfl) ?_
          refine lv_iconst (v := 3) hx hb d_Machine_run_72 (by decide) ?_
          refine lv_icmp_eq (tgt := 82) hx hb d_Machine_run_73 (by decide) (fun h6 => ?_) (fun h6 => ?_)
          · -- o1 = 3
            exact absurd (by rw [h6]; first | done | decide) h5
          · -- ¬ o1 = 3
            refine lv_iload hx hb d_Machine_run_76 (lv_at hl 1 rfl) ?_
            refine lv_iconst (v := 2) hx hb d_Machine_run_78 (by decide) ?_
            refine lv_icmp_ne (tgt := 89) hx hb d_Machine_run_79 (by decide) (fun h7 => ?_) (fun h7 => ?_)
            · -- ¬ o1 = 2
              refine lv_iload hx hb d_Machine_run_89 (lv_at hl 1 rfl) ?_
              refine W.iret hx hb hr (fun t ht hW => ⟨⟨o1, (res1, stp1, pcn1, fk1, fv1, fa1, fl1, fs1, hgt1, ap1), rfl, ?_, ?_⟩, hS.F ht⟩) hS.2.2 d_Machine_run_91
              · (rw [← hT]; simp only [m_loop, m_fin, h5, h6, h7, if_true, if_false, eq_self, not_true_eq_false, not_false_eq_true, ne_eq]; first | rfl | done)
              · exact ⟨by rw [ht]; exact hP.sub [0, 1, 2, 3, 4, 5, 6, 7, 8] rfl, hD.sub [0, 1, 2, 3, 4, 5, 6, 7, 8] (by decide) rfl⟩
            · -- o1 = 2
              refine lv_aload_n hx hb d_Machine_run_82 rfl (lv_at hl 2 rfl) ?_
              refine lv_iconst (v := 0) hx hb d_Machine_run_83 (by decide) ?_
              refine va_put (D := D) (ci := 3) (v := .int 0) (ty := .int) (C := R_Machine) (T := F_Machine) (N := 10) hx hb hts in_Machine t_Machine t_Machine_ok n_Machine hown hE.1 hP hD hS 3 rfl rfl 2 (by decide) (hts _ k_87) (fun _ h9 => h9) rfl (by decide +kernel) rfl rfl (Nat.le_of_ble_eq_true rfl) d_Machine_run_84 (fun H locs hP hD hS => ?_)
              have hP : va_P D classes [(pr, .inr (1, [.int kd, .int sz, .int ac, .ref po, .ref pn])), (po, .inl (cI, 64, .inl fo)), (pn, .inl (cI, 64, .inl fn)), (mc, .inr (3, [.int res1, .int stp1, .int 0, .ref ky, .ref vy, .ref gy, .ref ly, .ref sy, .int hgt1, .int ap1])), (ky, .inl (cI, 20, .inl fk1)), (vy, .inl (cI, 20, .inl fv1)), (gy, .inl (cI, 3, .inl fa1)), (ly, .inl (cI, 4, .inl fl1)), (sy, .inl (cI, 8, .inl fs1))] H := hP
              have hD : va_D A [(pr, .inr (1, [.int kd, .int sz, .int ac, .ref po, .ref pn])), (po, .inl (cI, 64, .inl fo)), (pn, .inl (cI, 64, .inl fn)), (mc, .inr (3, [.int res1, .int stp1, .int 0, .ref ky, .ref vy, .ref gy, .ref ly, .ref sy, .int hgt1, .int ap1])), (ky, .inl (cI, 20, .inl fk1)), (vy, .inl (cI, 20, .inl fv1)), (gy, .inl (cI, 3, .inl fa1)), (ly, .inl (cI, 4, .inl fl1)), (sy, .inl (cI, 8, .inl fs1))] := hD
              refine lv_iconst (v := 2) hx hb d_Machine_run_87 (by decide) ?_
              refine W.iret hx hb hr (fun t ht hW => ⟨⟨2, (res1, stp1, 0, fk1, fv1, fa1, fl1, fs1, hgt1, ap1), rfl, ?_, ?_⟩, hS.F ht⟩) hS.2.2 d_Machine_run_88
              · (rw [← hT]; simp only [m_loop, m_fin, h5, h6, h7, if_true, if_false, eq_self, not_true_eq_false, not_false_eq_true, ne_eq]; first | rfl | done)
              · exact ⟨by rw [ht]; exact hP.sub [0, 1, 2, 3, 4, 5, 6, 7, 8] rfl, hD.sub [0, 1, 2, 3, 4, 5, 6, 7, 8] (by decide) rfl⟩
        · -- o1 = 3
          refine lv_aload_n hx hb d_Machine_run_28 rfl (lv_at hl 2 rfl) ?_
          refine lv_dup hx hb d_Machine_run_29 rfl ?_
          refine va_get (D := D) (ci := 3) (v := .int stp1) (C := R_Machine) (T := F_Machine) (N := 10) hx hb hts in_Machine hown hE.1 hP 3 rfl rfl 1 (by decide) (hts _ k_85) (fun _ h9 => h9) rfl d_Machine_run_30 ?_
          refine lv_iconst (v := 1) hx hb d_Machine_run_33 (by decide) ?_
          refine lv_iadd hx hb d_Machine_run_34 ?_
          refine va_put (D := D) (ci := 3) (v := .int (stp1 + 1)) (ty := .int) (C := R_Machine) (T := F_Machine) (N := 10) hx hb hts in_Machine t_Machine t_Machine_ok n_Machine hown hE.1 hP hD hS 3 rfl rfl 1 (by decide) (hts _ k_85) (fun _ h9 => h9) rfl (by decide +kernel) rfl rfl (Nat.le_of_ble_eq_true rfl) d_Machine_run_35 (fun H locs hP hD hS => ?_)
          have hP : va_P D classes [(pr, .inr (1, [.int kd, .int sz, .int ac, .ref po, .ref pn])), (po, .inl (cI, 64, .inl fo)), (pn, .inl (cI, 64, .inl fn)), (mc, .inr (3, [.int res1, .int (stp1 + 1), .int pcn1, .ref ky, .ref vy, .ref gy, .ref ly, .ref sy, .int hgt1, .int ap1])), (ky, .inl (cI, 20, .inl fk1)), (vy, .inl (cI, 20, .inl fv1)), (gy, .inl (cI, 3, .inl fa1)), (ly, .inl (cI, 4, .inl fl1)), (sy, .inl (cI, 8, .inl fs1))] H := hP
          have hD : va_D A [(pr, .inr (1, [.int kd, .int sz, .int ac, .ref po, .ref pn])), (po, .inl (cI, 64, .inl fo)), (pn, .inl (cI, 64, .inl fn)), (mc, .inr (3, [.int res1, .int (stp1 + 1), .int pcn1, .ref ky, .ref vy, .ref gy, .ref ly, .ref sy, .int hgt1, .int ap1])), (ky, .inl (cI, 20, .inl fk1)), (vy, .inl (cI, 20, .inl fv1)), (gy, .inl (cI, 3, .inl fa1)), (ly, .inl (cI, 4, .inl fl1)), (sy, .inl (cI, 8, .inl fs1))] := hD
          refine lv_aload_n hx hb d_Machine_run_38 rfl (lv_at hl 2 rfl) ?_
          refine lv_aload_n hx hb d_Machine_run_39 rfl (lv_at hl 3 rfl) ?_
          refine lv_aload_n hx hb d_Machine_run_40 rfl (lv_at hl 2 rfl) ?_
          refine va_get (D := D) (ci := 3) (v := .int ap1) (C := R_Machine) (T := F_Machine) (N := 10) hx hb hts in_Machine hown hE.1 hP 3 rfl rfl 9 (by decide) (hts _ k_97) (fun _ h9 => h9) rfl d_Machine_run_41 ?_
          refine vp_callSi (va_Run.run (va_runV (As := [.int ap1]) (rest := [.ref mc]) ⟨hx, hb, hml, hown, hts⟩ (c_Program_opAt l D cI cZ tN tG pr po pn kd sz ac fo fn ap1) (cwV 1 hts (gd4 k_264 k_188 k_189 k_19 k_190) rfl rfl rfl (by decide +kernel) ⟨Nat.le_of_ble_eq_true rfl, Nat.le_of_ble_eq_true rfl⟩) ⟨PZ_blind, va_recv (q0 := 0) (ci := 1) hE.1 hP rfl rfl, pz_pre hE hZ hS (hP.sub [0, 1, 2] rfl)⟩ rfl rfl hl.1 rfl (lv_room (Nat.le_of_ble_eq_true rfl)) d_Machine_run_44 ⟨Nat.zero_le _, Nat.zero_le _⟩)) (fun r hq => ?_)
          subst hq
          refine lv_aload_n hx hb d_Machine_run_47 rfl (lv_at hl 3 rfl) ?_
          refine lv_aload_n hx hb d_Machine_run_48 rfl (lv_at hl 2 rfl) ?_
          refine va_get (D := D) (ci := 3) (v := .int ap1) (C := R_Machine) (T := F_Machine) (N := 10) hx hb hts in_Machine hown hE.1 hP 3 rfl rfl 9 (by decide) (hts _ k_97) (fun _ h9 => h9) rfl d_Machine_run_49 ?_
          refine vp_callSi (va_Run.run (va_runV (As := [.int ap1]) (rest := [.int (rd fo 64 ap1), .ref mc]) ⟨hx, hb, hml, hown, hts⟩ (c_Program_nAt l D cI cZ tN tG pr po pn kd sz ac fo fn ap1) (cwV 1 hts (gd4 k_265 k_225 k_226 k_19 k_227) rfl rfl rfl (by decide +kernel) ⟨Nat.le_of_ble_eq_true rfl, Nat.le_of_ble_eq_true rfl⟩) ⟨PZ_blind, va_recv (q0 := 0) (ci := 1) hE.1 hP rfl rfl, pz_pre hE hZ hS (hP.sub [0, 1, 2] rfl)⟩ rfl rfl hl.1 rfl (lv_room (Nat.le_of_ble_eq_true rfl)) d_Machine_run_52 ⟨Nat.zero_le _, Nat.zero_le _⟩)) (fun r hq => ?_)
          subst hq
          refine lv_aload_n hx hb d_Machine_run_55 rfl (lv_at hl 3 rfl) ?_
          refine va_get (D := D) (ci := 1) (v := .int kd) (C := R_Program) (T := F_Program) (N := 5) hx hb hts in_Program hown hE.1 hP 0 rfl rfl 0 (by decide) (hts _ k_41) (fun _ h9 => h9) rfl d_Machine_run_56 ?_
          have hPc := hP.sub (ws' := [(mc, .inr (3, [.int res1, .int (stp1 + 1), .int pcn1, .ref ky, .ref vy, .ref gy, .ref ly, .ref sy, .int hgt1, .int ap1])), (ky, .inl (cI, 20, .inl fk1)), (vy, .inl (cI, 20, .inl fv1)), (gy, .inl (cI, 3, .inl fa1)), (ly, .inl (cI, 4, .inl fl1)), (sy, .inl (cI, 8, .inl fs1))]) [3, 4, 5, 6, 7, 8] rfl
          have hDc := hD.sub (ws' := [(mc, .inr (3, [.int res1, .int (stp1 + 1), .int pcn1, .ref ky, .ref vy, .ref gy, .ref ly, .ref sy, .int hgt1, .int ap1])), (ky, .inl (cI, 20, .inl fk1)), (vy, .inl (cI, 20, .inl fv1)), (gy, .inl (cI, 3, .inl fa1)), (ly, .inl (cI, 4, .inl fl1)), (sy, .inl (cI, 8, .inl fs1))]) [3, 4, 5, 6, 7, 8] (by decide) rfl
          have hFc := va_free (wc := [(mc, .inr (3, [.int res1, .int (stp1 + 1), .int pcn1, .ref ky, .ref vy, .ref gy, .ref ly, .ref sy, .int hgt1, .int ap1])), (ky, .inl (cI, 20, .inl fk1)), (vy, .inl (cI, 20, .inl fv1)), (gy, .inl (cI, 3, .inl fa1)), (ly, .inl (cI, 4, .inl fl1)), (sy, .inl (cI, 8, .inl fs1))]) hD hS hA [3, 4, 5, 6, 7, 8] rfl
          refine va_calli (va_runV (As := [.int (rd fo 64 ap1), .int (rd fn 64 ap1), .int kd]) (rest := []) ⟨hx, hb, hml, hown, hts⟩ (c_Machine_doOne l D cI cZ tN tG H.size mc ky vy gy ly sy res1 (stp1 + 1) pcn1 fk1 fv1 fa1 fl1 fs1 hgt1 ap1 (rd fo 64 ap1) (rd fn 64 ap1) kd) (cwV 3 hts (gd4 k_266 k_268 k_6 k_21 k_269) rfl rfl rfl (by decide +kernel) ⟨Nat.le_of_ble_eq_true rfl, Nat.le_of_ble_eq_true rfl⟩) ⟨MZ_blind, va_recv (q0 := 3) (ci := 3) hE.1 hP rfl rfl, mz_pre hE hZ hS hPc hDc hFc⟩ rfl rfl hl.1 rfl (lv_room (Nat.le_of_ble_eq_true rfl)) d_Machine_run_59 ⟨Nat.zero_le _, Nat.zero_le _⟩) hS (fun q _ h => hFc q h) hFc (fun r u t H1 locs ht hvm hw hB hz1 hk1 hS => ?_)
          obtain ⟨hP1, hD1⟩ := hB
          rw [ht] at hP1
          have hr1 := congrArg Prod.fst hw
          have hu1 := congrArg Prod.snd hw
          dsimp only at hr1 hu1
          subst hr1
          subst hu1
          obtain ⟨hP, hD⟩ := va_join (wr := [(pr, .inr (1, [.int kd, .int sz, .int ac, .ref po, .ref pn])), (po, .inl (cI, 64, .inl fo)), (pn, .inl (cI, 64, .inl fn))]) (w1 := [(mc, .inr (3, [.int ((m_one (rd fo 64 ap1) (rd fn 64 ap1) kd (res1, (stp1 + 1), pcn1, fk1, fv1, fa1, fl1, fs1, hgt1, ap1)).2.1), .int ((m_one (rd fo 64 ap1) (rd fn 64 ap1) kd (res1, (stp1 + 1), pcn1, fk1, fv1, fa1, fl1, fs1, hgt1, ap1)).2.2.1), .int ((m_one (rd fo 64 ap1) (rd fn 64 ap1) kd (res1, (stp1 + 1), pcn1, fk1, fv1, fa1, fl1, fs1, hgt1, ap1)).2.2.2.1), .ref ky, .ref vy, .ref gy, .ref ly, .ref sy, .int ((m_one (rd fo 64 ap1) (rd fn 64 ap1) kd (res1, (stp1 + 1), pcn1, fk1, fv1, fa1, fl1, fs1, hgt1, ap1)).2.2.2.2.2.2.2.2.2.1), .int ((m_one (rd fo 64 ap1) (rd fn 64 ap1) kd (res1, (stp1 + 1), pcn1, fk1, fv1, fa1, fl1, fs1, hgt1, ap1)).2.2.2.2.2.2.2.2.2.2)])), (ky, .inl (cI, 20, .inl ((m_one (rd fo 64 ap1) (rd fn 64 ap1) kd (res1, (stp1 + 1), pcn1, fk1, fv1, fa1, fl1, fs1, hgt1, ap1)).2.2.2.2.1))), (vy, .inl (cI, 20, .inl ((m_one (rd fo 64 ap1) (rd fn 64 ap1) kd (res1, (stp1 + 1), pcn1, fk1, fv1, fa1, fl1, fs1, hgt1, ap1)).2.2.2.2.2.1))), (gy, .inl (cI, 3, .inl ((m_one (rd fo 64 ap1) (rd fn 64 ap1) kd (res1, (stp1 + 1), pcn1, fk1, fv1, fa1, fl1, fs1, hgt1, ap1)).2.2.2.2.2.2.1))), (ly, .inl (cI, 4, .inl ((m_one (rd fo 64 ap1) (rd fn 64 ap1) kd (res1, (stp1 + 1), pcn1, fk1, fv1, fa1, fl1, fs1, hgt1, ap1)).2.2.2.2.2.2.2.1))), (sy, .inl (cI, 8, .inl ((m_one (rd fo 64 ap1) (rd fn 64 ap1) kd (res1, (stp1 + 1), pcn1, fk1, fv1, fa1, fl1, fs1, hgt1, ap1)).2.2.2.2.2.2.2.2.1)))]) hP hD [3, 4, 5, 6, 7, 8] [0, 1, 2] rfl rfl (by decide) (by decide) hk1 hFc hP1 hD1
          generalize H1 = H at hP hS ⊢
          have hP : va_P D classes [(pr, .inr (1, [.int kd, .int sz, .int ac, .ref po, .ref pn])), (po, .inl (cI, 64, .inl fo)), (pn, .inl (cI, 64, .inl fn)), (mc, .inr (3, [.int ((m_one (rd fo 64 ap1) (rd fn 64 ap1) kd (res1, (stp1 + 1), pcn1, fk1, fv1, fa1, fl1, fs1, hgt1, ap1)).2.1), .int ((m_one (rd fo 64 ap1) (rd fn 64 ap1) kd (res1, (stp1 + 1), pcn1, fk1, fv1, fa1, fl1, fs1, hgt1, ap1)).2.2.1), .int ((m_one (rd fo 64 ap1) (rd fn 64 ap1) kd (res1, (stp1 + 1), pcn1, fk1, fv1, fa1, fl1, fs1, hgt1, ap1)).2.2.2.1), .ref ky, .ref vy, .ref gy, .ref ly, .ref sy, .int ((m_one (rd fo 64 ap1) (rd fn 64 ap1) kd (res1, (stp1 + 1), pcn1, fk1, fv1, fa1, fl1, fs1, hgt1, ap1)).2.2.2.2.2.2.2.2.2.1), .int ((m_one (rd fo 64 ap1) (rd fn 64 ap1) kd (res1, (stp1 + 1), pcn1, fk1, fv1, fa1, fl1, fs1, hgt1, ap1)).2.2.2.2.2.2.2.2.2.2)])), (ky, .inl (cI, 20, .inl ((m_one (rd fo 64 ap1) (rd fn 64 ap1) kd (res1, (stp1 + 1), pcn1, fk1, fv1, fa1, fl1, fs1, hgt1, ap1)).2.2.2.2.1))), (vy, .inl (cI, 20, .inl ((m_one (rd fo 64 ap1) (rd fn 64 ap1) kd (res1, (stp1 + 1), pcn1, fk1, fv1, fa1, fl1, fs1, hgt1, ap1)).2.2.2.2.2.1))), (gy, .inl (cI, 3, .inl ((m_one (rd fo 64 ap1) (rd fn 64 ap1) kd (res1, (stp1 + 1), pcn1, fk1, fv1, fa1, fl1, fs1, hgt1, ap1)).2.2.2.2.2.2.1))), (ly, .inl (cI, 4, .inl ((m_one (rd fo 64 ap1) (rd fn 64 ap1) kd (res1, (stp1 + 1), pcn1, fk1, fv1, fa1, fl1, fs1, hgt1, ap1)).2.2.2.2.2.2.2.1))), (sy, .inl (cI, 8, .inl ((m_one (rd fo 64 ap1) (rd fn 64 ap1) kd (res1, (stp1 + 1), pcn1, fk1, fv1, fa1, fl1, fs1, hgt1, ap1)).2.2.2.2.2.2.2.2.1)))] H := hP
          have hD : va_D A [(pr, .inr (1, [.int kd, .int sz, .int ac, .ref po, .ref pn])), (po, .inl (cI, 64, .inl fo)), (pn, .inl (cI, 64, .inl fn)), (mc, .inr (3, [.int ((m_one (rd fo 64 ap1) (rd fn 64 ap1) kd (res1, (stp1 + 1), pcn1, fk1, fv1, fa1, fl1, fs1, hgt1, ap1)).2.1), .int ((m_one (rd fo 64 ap1) (rd fn 64 ap1) kd (res1, (stp1 + 1), pcn1, fk1, fv1, fa1, fl1, fs1, hgt1, ap1)).2.2.1), .int ((m_one (rd fo 64 ap1) (rd fn 64 ap1) kd (res1, (stp1 + 1), pcn1, fk1, fv1, fa1, fl1, fs1, hgt1, ap1)).2.2.2.1), .ref ky, .ref vy, .ref gy, .ref ly, .ref sy, .int ((m_one (rd fo 64 ap1) (rd fn 64 ap1) kd (res1, (stp1 + 1), pcn1, fk1, fv1, fa1, fl1, fs1, hgt1, ap1)).2.2.2.2.2.2.2.2.2.1), .int ((m_one (rd fo 64 ap1) (rd fn 64 ap1) kd (res1, (stp1 + 1), pcn1, fk1, fv1, fa1, fl1, fs1, hgt1, ap1)).2.2.2.2.2.2.2.2.2.2)])), (ky, .inl (cI, 20, .inl ((m_one (rd fo 64 ap1) (rd fn 64 ap1) kd (res1, (stp1 + 1), pcn1, fk1, fv1, fa1, fl1, fs1, hgt1, ap1)).2.2.2.2.1))), (vy, .inl (cI, 20, .inl ((m_one (rd fo 64 ap1) (rd fn 64 ap1) kd (res1, (stp1 + 1), pcn1, fk1, fv1, fa1, fl1, fs1, hgt1, ap1)).2.2.2.2.2.1))), (gy, .inl (cI, 3, .inl ((m_one (rd fo 64 ap1) (rd fn 64 ap1) kd (res1, (stp1 + 1), pcn1, fk1, fv1, fa1, fl1, fs1, hgt1, ap1)).2.2.2.2.2.2.1))), (ly, .inl (cI, 4, .inl ((m_one (rd fo 64 ap1) (rd fn 64 ap1) kd (res1, (stp1 + 1), pcn1, fk1, fv1, fa1, fl1, fs1, hgt1, ap1)).2.2.2.2.2.2.2.1))), (sy, .inl (cI, 8, .inl ((m_one (rd fo 64 ap1) (rd fn 64 ap1) kd (res1, (stp1 + 1), pcn1, fk1, fv1, fa1, fl1, fs1, hgt1, ap1)).2.2.2.2.2.2.2.2.1)))] := hD
          refine lv_istore hx hb d_Machine_run_62 hl (by decide) rfl (fun ls hl => ?_)
          have hl : lv_has ls 7 [(5, .int ((m_one (rd fo 64 ap1) (rd fn 64 ap1) kd (res1, (stp1 + 1), pcn1, fk1, fv1, fa1, fl1, fs1, hgt1, ap1)).1)), (6, .int (nI j)), (0, .ref mc), (1, .ref pr)] := hl
          refine lv_iinc (v := ((nI j) + 1)) (k := 1) hx hb d_Machine_run_64 hl rfl rfl (by decide) rfl (fun ls hl => ?_)
          have hl : lv_has ls 7 [(6, .int ((nI j) + 1)), (5, .int ((m_one (rd fo 64 ap1) (rd fn 64 ap1) kd (res1, (stp1 + 1), pcn1, fk1, fv1, fa1, fl1, fs1, hgt1, ap1)).1)), (0, .ref mc), (1, .ref pr)] := hl
          refine lv_goto (tgt := 14) hx hb d_Machine_run_67 (by decide) ?_
          have hl := lv_sub (l' := [(6, .int (nI j + 1)), (5, .int (m_one (rd fo 64 ap1) (rd fn 64 ap1) kd (res1, (stp1 + 1), pcn1, fk1, fv1, fa1, fl1, fs1, hgt1, ap1)).1), (0, .ref mc), (1, .ref pr)]) hl [0, 1, 2, 3] rfl
          rw [nI_1] at hl
          exact ih (j + 1) _ _ _ _ _ _ _ _ _ _ _ _ _ _ (by omega) hl (hP.sub [0, 1, 2, 3, 4, 5, 6, 7, 8] rfl) (hD.sub [0, 1, 2, 3, 4, 5, 6, 7, 8] (by decide) rfl) (by rw [← hT]; simp only [m_loop, h5, if_true]; rfl) hS
  exact key 300 0 3 _ _ _ _ _ _ _ _ _ _ H locs ls rfl (lv_sub hl [0, 1, 2, 3] rfl) (hP.sub [0, 1, 2, 3, 4, 5, 6, 7, 8] rfl) (hD.sub [0, 1, 2, 3, 4, 5, 6, 7, 8] (by decide) rfl) rfl hS
end
section
def p_app (op n : Int32) : (Nat → Int32) × (Nat → Int32) × Int32 → Int32 × ((Nat → Int32) × (Nat → Int32) × Int32)
  | (fo, fn, sz) => if sz < 64 then (1, (wr fo 64 sz op, wr fn 64 sz n, sz + 1)) else (0, (fo, fn, sz))
def j_fol (kd ac : Int32) (n : Nat) (fo fn : Nat → Int32) (u : WS) : WS := if nI n = 0 then u else w_follow kd (nI n) ac fo fn u.2.1
def j_chk (kd ac : Int32) (n : Nat) (fo fn : Nat → Int32) (u : WS) : Int32 := if nI n = 0 then 64 else w_first kd (nI n) ac fo fn (w_follow kd (nI n) ac fo fn u.2.1).1 n 0
def j_hgt (kd ac : Int32) (n : Nat) (fo fn : Nat → Int32) (k : Int32) (u : WS) : Int32 × WS := if p_has (nI n) k = 0 then (-1, u) else (rd (w_follow kd (nI n) ac fo fn u.2.1).1 64 k, w_follow kd (nI n) ac fo fn u.2.1)
def j_call (kd ac : Int32) (n : Nat) (fo fn : Nat → Int32) (x y z : Int32) (u : WS) (S : MS) : Int32 × (WS × MS) := if j_chk kd ac n fo fn u = -2 then ((m_run kd fo fn x y z S).1, (j_fol kd ac n fo fn u, (m_run kd fo fn x y z S).2)) else (-2, (j_fol kd ac n fo fn u, S))
def j_pair (pcn : Int32) (fk fv : Nat → Int32) (k what : Int32) : Int64 := if k < 0 then 1099511627776 else if k < pcn then (if what = 0 then (rd fk 20 k).toInt64 else if what = 1 then (rd fv 20 k).toInt64 else 1099511627776) else 1099511627776
set_option maxHeartbeats 4000000 in
set_option maxRecDepth 100000 in
theorem c_Program_append (l : Launch) (D : va_G) (cI cZ : ClassId) (tN tG : Nat) (hz : Nat) (pr po pn : Nat) (kd sz ac : Int32) (fo fn : Nat → Int32) (op n : Int32) : Met l y_Program_append w_Program_append (rmk 1) (va_Pc [.ref pr, .int op, .int n] (MZ D cI cZ tN tG [(pr, .inr (1, [.int kd, .int sz, .int ac, .ref po, .ref pn])), (po, .inl (cI, 64, .inl fo)), (pn, .inl (cI, 64, .inl fn))] hz)) (va_Qi (fun (r : Int32) (u : (Nat → Int32) × (Nat → Int32) × Int32) => (r, u) = p_app op n (fo, fn, sz)) (fun u t => ME D (va_A [(pr, .inr (1, [.int kd, .int sz, .int ac, .ref po, .ref pn])), (po, .inl (cI, 64, .inl fo)), (pn, .inl (cI, 64, .inl fn))] hz) [(pr, .inr (1, [.int kd, .int u.2.2, .int ac, .ref po, .ref pn])), (po, .inl (cI, 64, .inl u.1)), (pn, .inl (cI, 64, .inl u.2.1))] t) (va_A [(pr, .inr (1, [.int kd, .int sz, .int ac, .ref po, .ref pn])), (po, .inl (cI, 64, .inl fo)), (pn, .inl (cI, 64, .inl fn))] hz)) 0 0 (va_A [(pr, .inr (1, [.int kd, .int sz, .int ac, .ref po, .ref pn])), (po, .inl (cI, 64, .inl fo)), (pn, .inl (cI, 64, .inl fn))] hz) := by
  refine Met.ofW (cc := b_Program_append) (maxL := 3) (ret := (some .boolean)) (by decide) rfl ?_
  intro p e s m args below meth c s₁ B hml hv
  obtain ⟨rfl, hsz, hP, hE, hD0, hZ⟩ := hv
  have hx := B.exec
  have hb := B.bytes
  have hr := B.returns
  have hts : ∀ w ∈ gW, w.before _ s = true := fun w h => atoms_spec (ws := w_Program_append) B.pre w (List.mem_cons_of_mem _ h)
  have hown : s.vm.findClass R_Program = some m.cls := findClass_of_methodNamed B.named
  have hlocks := B.notSynchronized
  subst hsz
  have hD := hD0.self (sz := s.heap.size)
  have hA : ∀ q : Nat, s.heap.size ≤ q → va_A [(pr, .inr (1, [.int kd, .int sz, .int ac, .ref po, .ref pn])), (po, .inl (cI, 64, .inl fo)), (pn, .inl (cI, 64, .inl fn))] s.heap.size q := fun q h => Or.inr h
  generalize va_A [(pr, .inr (1, [.int kd, .int sz, .int ac, .ref po, .ref pn])), (po, .inl (cI, 64, .inl fo)), (pn, .inl (cI, 64, .inl fn))] s.heap.size = A at hD hA hZ ⊢
  have hS : va_S A s.heap s.heap [] := va_S.rf
  have hP : va_P D classes [(pr, .inr (1, [.int kd, .int sz, .int ac, .ref po, .ref pn])), (po, .inl (cI, 64, .inl fo)), (pn, .inl (cI, 64, .inl fn))] s.heap := hP
  have hD : va_D A [(pr, .inr (1, [.int kd, .int sz, .int ac, .ref po, .ref pn])), (po, .inl (cI, 64, .inl fo)), (pn, .inl (cI, 64, .inl fn))] := hD
  have hl := lv_entry ([.ref pr, .int op, .int n]) (n := 3) (Nat.le_of_ble_eq_true rfl)
  rw [lg_entry_eq]
  generalize (lg_sl ([.ref pr, .int op, .int n]) ++ List.replicate (3 - (lg_sl ([.ref pr, .int op, .int n])).length) Slot.unset).toArray = ls at hl ⊢
  have hl : lv_has ls 3 [(0, .ref pr), (1, .int op), (2, .int n)] := hl
  refine lv_aload_n hx hb d_Program_append_0 rfl (lv_at hl 0 rfl) ?_
  refine va_get (D := D) (ci := 1) (v := .int sz) (C := R_Program) (T := F_Program) (N := 5) hx hb hts in_Program hown hE.1 hP 0 rfl rfl 1 (by decide) (hts _ k_42) (fun _ h9 => h9) rfl d_Program_append_1 ?_
  refine lv_bipush (v := 64) hx hb d_Program_append_4 (by decide) ?_
  refine lv_icmp_lt (tgt := 11) hx hb d_Program_append_6 (by decide) (fun h1 => ?_) (fun h1 => ?_)
  · -- sz < 64
    refine lv_aload_n hx hb d_Program_append_11 rfl (lv_at hl 0 rfl) ?_
    refine va_get (D := D) (ci := 1) (v := .ref po) (C := R_Program) (T := F_Program) (N := 5) hx hb hts in_Program hown hE.1 hP 0 rfl rfl 3 (by decide) (hts _ k_46) (fun _ h9 => h9) rfl d_Program_append_12 ?_
    refine lv_aload_n hx hb d_Program_append_15 rfl (lv_at hl 0 rfl) ?_
    refine va_get (D := D) (ci := 1) (v := .int sz) (C := R_Program) (T := F_Program) (N := 5) hx hb hts in_Program hown hE.1 hP 0 rfl rfl 1 (by decide) (hts _ k_42) (fun _ h9 => h9) rfl d_Program_append_16 ?_
    refine lv_iload_n hx hb d_Program_append_19 rfl (lv_at hl 1 rfl) ?_
    have hPc := hP.sub (ws' := [(po, .inl (cI, 64, .inl fo))]) [1] rfl
    have hDc := hD.sub (ws' := [(po, .inl (cI, 64, .inl fo))]) [1] (by decide) rfl
    have hFc := va_free (wc := [(po, .inl (cI, 64, .inl fo))]) hD hS hA [1] rfl
    refine va_callv (va_runSN (As := [.ref po, .int sz, .int op]) (rest := []) ⟨hx, hb, hml, hown, hts⟩ (c_SJ_write l D cI cZ tN tG s.heap.size po 64 fo sz op (by decide)) ⟨va_cnB 3 hts (gd k_139) rfl rfl rfl (hE.2 _ nm_2) (hts _ k_18) (by decide +kernel) ⟨Nat.le_of_ble_eq_true rfl, Nat.le_of_ble_eq_true rfl⟩, hts _ k_138, trivial⟩ ⟨MZ_blind, mz_pre hE hZ hS hPc hDc hFc⟩ rfl rfl hl.1 rfl (lv_room (Nat.le_of_ble_eq_true rfl)) d_Program_append_20 ⟨Nat.zero_le _, Nat.zero_le _⟩) hS (fun q _ h => hFc q h) hFc (fun u t H1 locs ht hvm hw hB hz1 hk1 hS => ?_)
    obtain ⟨hP1, hD1⟩ := hB
    rw [ht] at hP1
    subst hw
    obtain ⟨hP, hD⟩ := va_join (wr := [(pr, .inr (1, [.int kd, .int sz, .int ac, .ref po, .ref pn])), (pn, .inl (cI, 64, .inl fn))]) (w1 := [(po, .inl (cI, 64, .inl (wr fo 64 sz op)))]) hP hD [1] [0, 2] rfl rfl (by decide) (by decide) hk1 hFc hP1 hD1
    generalize H1 = H at hP hS ⊢
    have hP : va_P D classes [(pr, .inr (1, [.int kd, .int sz, .int ac, .ref po, .ref pn])), (pn, .inl (cI, 64, .inl fn)), (po, .inl (cI, 64, .inl (wr fo 64 sz op)))] H := hP
    have hD : va_D A [(pr, .inr (1, [.int kd, .int sz, .int ac, .ref po, .ref pn])), (pn, .inl (cI, 64, .inl fn)), (po, .inl (cI, 64, .inl (wr fo 64 sz op)))] := hD
    refine lv_aload_n hx hb d_Program_append_23 rfl (lv_at hl 0 rfl) ?_
    refine va_get (D := D) (ci := 1) (v := .ref pn) (C := R_Program) (T := F_Program) (N := 5) hx hb hts in_Program hown hE.1 hP 0 rfl rfl 4 (by decide) (hts _ k_47) (fun _ h9 => h9) rfl d_Program_append_24 ?_
    refine lv_aload_n hx hb d_Program_append_27 rfl (lv_at hl 0 rfl) ?_
    refine va_get (D := D) (ci := 1) (v := .int sz) (C := R_Program) (T := F_Program) (N := 5) hx hb hts in_Program hown hE.1 hP 0 rfl rfl 1 (by decide) (hts _ k_42) (fun _ h9 => h9) rfl d_Program_append_28 ?_
    refine lv_iload_n hx hb d_Program_append_31 rfl (lv_at hl 2 rfl) ?_
    have hPc := hP.sub (ws' := [(pn, .inl (cI, 64, .inl fn))]) [1] rfl
    have hDc := hD.sub (ws' := [(pn, .inl (cI, 64, .inl fn))]) [1] (by decide) rfl
    have hFc := va_free (wc := [(pn, .inl (cI, 64, .inl fn))]) hD hS hA [1] rfl
    refine va_callv (va_runSN (As := [.ref pn, .int sz, .int n]) (rest := []) ⟨hx, hb, hml, hown, hts⟩ (c_SJ_write l D cI cZ tN tG H.size pn 64 fn sz n (by decide)) ⟨va_cnB 3 hts (gd k_139) rfl rfl rfl (hE.2 _ nm_2) (hts _ k_18) (by decide +kernel) ⟨Nat.le_of_ble_eq_true rfl, Nat.le_of_ble_eq_true rfl⟩, hts _ k_138, trivial⟩ ⟨MZ_blind, mz_pre hE hZ hS hPc hDc hFc⟩ rfl rfl hl.1 rfl (lv_room (Nat.le_of_ble_eq_true rfl)) d_Program_append_32 ⟨Nat.zero_le _, Nat.zero_le _⟩) hS (fun q _ h => hFc q h) hFc (fun u t H1 locs ht hvm hw hB hz1 hk1 hS => ?_)
    obtain ⟨hP1, hD1⟩ := hB
    rw [ht] at hP1
    subst hw
    obtain ⟨hP, hD⟩ := va_join (wr := [(pr, .inr (1, [.int kd, .int sz, .int ac, .ref po, .ref pn])), (po, .inl (cI, 64, .inl (wr fo 64 sz op)))]) (w1 := [(pn, .inl (cI, 64, .inl (wr fn 64 sz n)))]) hP hD [1] [0, 2] rfl rfl (by decide) (by decide) hk1 hFc hP1 hD1
    generalize H1 = H at hP hS ⊢
    have hP : va_P D classes [(pr, .inr (1, [.int kd, .int sz, .int ac, .ref po, .ref pn])), (po, .inl (cI, 64, .inl (wr fo 64 sz op))), (pn, .inl (cI, 64, .inl (wr fn 64 sz n)))] H := hP
    have hD : va_D A [(pr, .inr (1, [.int kd, .int sz, .int ac, .ref po, .ref pn])), (po, .inl (cI, 64, .inl (wr fo 64 sz op))), (pn, .inl (cI, 64, .inl (wr fn 64 sz n)))] := hD
    refine lv_aload_n hx hb d_Program_append_35 rfl (lv_at hl 0 rfl) ?_
    refine lv_dup hx hb d_Program_append_36 rfl ?_
    refine va_get (D := D) (ci := 1) (v := .int sz) (C := R_Program) (T := F_Program) (N := 5) hx hb hts in_Program hown hE.1 hP 0 rfl rfl 1 (by decide) (hts _ k_42) (fun _ h9 => h9) rfl d_Program_append_37 ?_
    refine lv_iconst (v := 1) hx hb d_Program_append_40 (by decide) ?_
    refine lv_iadd hx hb d_Program_append_41 ?_
    refine va_put (D := D) (ci := 1) (v := .int (sz + 1)) (ty := .int) (C := R_Program) (T := F_Program) (N := 5) hx hb hts in_Program t_Program t_Program_ok n_Program hown hE.1 hP hD hS 0 rfl rfl 1 (by decide) (hts _ k_42) (fun _ h9 => h9) rfl (by decide +kernel) rfl rfl (Nat.le_of_ble_eq_true rfl) d_Program_append_42 (fun H locs hP hD hS => ?_)
    have hP : va_P D classes [(pr, .inr (1, [.int kd, .int (sz + 1), .int ac, .ref po, .ref pn])), (po, .inl (cI, 64, .inl (wr fo 64 sz op))), (pn, .inl (cI, 64, .inl (wr fn 64 sz n)))] H := hP
    have hD : va_D A [(pr, .inr (1, [.int kd, .int (sz + 1), .int ac, .ref po, .ref pn])), (po, .inl (cI, 64, .inl (wr fo 64 sz op))), (pn, .inl (cI, 64, .inl (wr fn 64 sz n)))] := hD
    refine lv_iconst (v := 1) hx hb d_Program_append_45 (by decide) ?_
    refine W.zret hx hb hr (by decide) (fun t ht hW => ⟨⟨1, ((wr fo 64 sz op), (wr fn 64 sz n), (sz + 1)), rfl, ?_, ?_⟩, hS.F ht⟩) hS.2.2 d_Program_append_46
    · first | (simp only [p_app, h1, if_true, if_false, eq_self, not_true_eq_false, not_false_eq_true, ne_eq]; done) | (simp only [p_app, h1, if_true, if_false, eq_self, not_true_eq_false, not_false_eq_true, ne_eq]; rfl) | (simp [p_app, h1]; done)
    · exact ⟨by rw [ht]; exact hP.sub [0, 1, 2] rfl, hD.sub [0, 1, 2] (by decide) rfl⟩
  · -- ¬ sz < 64
    refine lv_iconst (v := 0) hx hb d_Program_append_9 (by decide) ?_
    refine W.zret hx hb hr (by decide) (fun t ht hW => ⟨⟨0, (fo, fn, sz), rfl, ?_, ?_⟩, hS.F ht⟩) hS.2.2 d_Program_append_10
    · first | (simp only [p_app, h1, if_true, if_false, eq_self, not_true_eq_false, not_false_eq_true, ne_eq]; done) | (simp only [p_app, h1, if_true, if_false, eq_self, not_true_eq_false, not_false_eq_true, ne_eq]; rfl) | (simp [p_app, h1]; done)
    · exact ⟨by rw [ht]; exact hP.sub [0, 1, 2] rfl, hD.sub [0, 1, 2] (by decide) rfl⟩
set_option maxHeartbeats 4000000 in
set_option maxRecDepth 100000 in
theorem c_Program_keepFirst (l : Launch) (D : va_G) (cI cZ : ClassId) (tN tG : Nat) (hz : Nat) (pr po pn : Nat) (kd sz ac : Int32) (fo fn : Nat → Int32) (k : Int32) : Met l y_Program_keepFirst w_Program_keepFirst (rmk 0) (va_Pc [.ref pr, .int k] (MZ D cI cZ tN tG [(pr, .inr (1, [.int kd, .int sz, .int ac, .ref po, .ref pn])), (po, .inl (cI, 64, .inl fo)), (pn, .inl (cI, 64, .inl fn))] hz)) (va_Qv (fun _ : Unit => True) (fun u t => ME D (va_A [(pr, .inr (1, [.int kd, .int sz, .int ac, .ref po, .ref pn])), (po, .inl (cI, 64, .inl fo)), (pn, .inl (cI, 64, .inl fn))] hz) [(pr, .inr (1, [.int kd, .int k, .int ac, .ref po, .ref pn])), (po, .inl (cI, 64, .inl fo)), (pn, .inl (cI, 64, .inl fn))] t) (va_A [(pr, .inr (1, [.int kd, .int sz, .int ac, .ref po, .ref pn])), (po, .inl (cI, 64, .inl fo)), (pn, .inl (cI, 64, .inl fn))] hz)) 0 0 (va_A [(pr, .inr (1, [.int kd, .int sz, .int ac, .ref po, .ref pn])), (po, .inl (cI, 64, .inl fo)), (pn, .inl (cI, 64, .inl fn))] hz) := by
  refine Met.ofW (cc := b_Program_keepFirst) (maxL := 2) (ret := none) (by decide) rfl ?_
  intro p e s m args below meth c s₁ B hml hv
  obtain ⟨rfl, hsz, hP, hE, hD0, hZ⟩ := hv
  have hx := B.exec
  have hb := B.bytes
  have hr := B.returns
  have hts : ∀ w ∈ gW, w.before _ s = true := fun w h => atoms_spec (ws := w_Program_keepFirst) B.pre w (List.mem_cons_of_mem _ h)
  have hown : s.vm.findClass R_Program = some m.cls := findClass_of_methodNamed B.named
  have hlocks := B.notSynchronized
  subst hsz
  have hD := hD0.self (sz := s.heap.size)
  have hA : ∀ q : Nat, s.heap.size ≤ q → va_A [(pr, .inr (1, [.int kd, .int sz, .int ac, .ref po, .ref pn])), (po, .inl (cI, 64, .inl fo)), (pn, .inl (cI, 64, .inl fn))] s.heap.size q := fun q h => Or.inr h
  generalize va_A [(pr, .inr (1, [.int kd, .int sz, .int ac, .ref po, .ref pn])), (po, .inl (cI, 64, .inl fo)), (pn, .inl (cI, 64, .inl fn))] s.heap.size = A at hD hA hZ ⊢
  have hS : va_S A s.heap s.heap [] := va_S.rf
  have hP : va_P D classes [(pr, .inr (1, [.int kd, .int sz, .int ac, .ref po, .ref pn])), (po, .inl (cI, 64, .inl fo)), (pn, .inl (cI, 64, .inl fn))] s.heap := hP
  have hD : va_D A [(pr, .inr (1, [.int kd, .int sz, .int ac, .ref po, .ref pn])), (po, .inl (cI, 64, .inl fo)), (pn, .inl (cI, 64, .inl fn))] := hD
  have hl := lv_entry ([.ref pr, .int k]) (n := 2) (Nat.le_of_ble_eq_true rfl)
  rw [lg_entry_eq]
  generalize (lg_sl ([.ref pr, .int k]) ++ List.replicate (2 - (lg_sl ([.ref pr, .int k])).length) Slot.unset).toArray = ls at hl ⊢
  have hl : lv_has ls 2 [(0, .ref pr), (1, .int k)] := hl
  refine lv_aload_n hx hb d_Program_keepFirst_0 rfl (lv_at hl 0 rfl) ?_
  refine lv_iload_n hx hb d_Program_keepFirst_1 rfl (lv_at hl 1 rfl) ?_
  refine va_put (D := D) (ci := 1) (v := .int k) (ty := .int) (C := R_Program) (T := F_Program) (N := 5) hx hb hts in_Program t_Program t_Program_ok n_Program hown hE.1 hP hD hS 0 rfl rfl 1 (by decide) (hts _ k_42) (fun _ h9 => h9) rfl (by decide +kernel) rfl rfl (Nat.le_of_ble_eq_true rfl) d_Program_keepFirst_2 (fun H locs hP hD hS => ?_)
  have hP : va_P D classes [(pr, .inr (1, [.int kd, .int k, .int ac, .ref po, .ref pn])), (po, .inl (cI, 64, .inl fo)), (pn, .inl (cI, 64, .inl fn))] H := hP
  have hD : va_D A [(pr, .inr (1, [.int kd, .int k, .int ac, .ref po, .ref pn])), (po, .inl (cI, 64, .inl fo)), (pn, .inl (cI, 64, .inl fn))] := hD
  refine W.vret hx hb hr (fun t ht hW => ⟨⟨(), rfl, ?_, ?_⟩, hS.F ht⟩) hS.2.2 d_Program_keepFirst_5
  · trivial
  · exact ⟨by rw [ht]; exact hP.sub [0, 1, 2] rfl, hD.sub [0, 1, 2] (by decide) rfl⟩
set_option maxHeartbeats 4000000 in
set_option maxRecDepth 100000 in
theorem c_SJ_code (l : Launch) (D : va_G) (cI cZ : ClassId) (tN tG : Nat) (hz : Nat) (xx wy mc : Nat) (pr po pn : Nat) (kd sz ac : Int32) (fo fn : Nat → Int32) (op n : Int32) : Met l y_SJ_code w_SJ_code (rmk 2) (va_Pc [.ref xx, .int op, .int n] (MZ D cI cZ tN tG [(xx, .inr (0, [.ref pr, .ref wy, .ref mc])), (pr, .inr (1, [.int kd, .int sz, .int ac, .ref po, .ref pn])), (po, .inl (cI, 64, .inl fo)), (pn, .inl (cI, 64, .inl fn))] hz)) (va_Qi (fun (r : Int32) (u : (Nat → Int32) × (Nat → Int32) × Int32) => r = (if (p_app op n (fo, fn, sz)).1 = 0 then -3 else (p_app op n (fo, fn, sz)).2.2.2 - 1) ∧ u = (p_app op n (fo, fn, sz)).2) (fun u t => ME D (va_A [(xx, .inr (0, [.ref pr, .ref wy, .ref mc])), (pr, .inr (1, [.int kd, .int sz, .int ac, .ref po, .ref pn])), (po, .inl (cI, 64, .inl fo)), (pn, .inl (cI, 64, .inl fn))] hz) [(xx, .inr (0, [.ref pr, .ref wy, .ref mc])), (pr, .inr (1, [.int kd, .int u.2.2, .int ac, .ref po, .ref pn])), (po, .inl (cI, 64, .inl u.1)), (pn, .inl (cI, 64, .inl u.2.1))] t) (va_A [(xx, .inr (0, [.ref pr, .ref wy, .ref mc])), (pr, .inr (1, [.int kd, .int sz, .int ac, .ref po, .ref pn])), (po, .inl (cI, 64, .inl fo)), (pn, .inl (cI, 64, .inl fn))] hz)) 0 0 (va_A [(xx, .inr (0, [.ref pr, .ref wy, .ref mc])), (pr, .inr (1, [.int kd, .int sz, .int ac, .ref po, .ref pn])), (po, .inl (cI, 64, .inl fo)), (pn, .inl (cI, 64, .inl fn))] hz) := by
  refine Met.ofW (cc := b_SJ_code) (maxL := 3) (ret := (some .int)) (by decide) rfl ?_
  intro p e s m args below meth c s₁ B hml hv
  obtain ⟨rfl, hsz, hP, hE, hD0, hZ⟩ := hv
  have hx := B.exec
  have hb := B.bytes
  have hr := B.returns
  have hts : ∀ w ∈ gW, w.before _ s = true := fun w h => atoms_spec (ws := w_SJ_code) B.pre w (List.mem_cons_of_mem _ h)
  have hown : s.vm.findClass R_SJ = some m.cls := findClass_of_methodNamed B.named
  have hlocks := B.notSynchronized
  subst hsz
  have hD := hD0.self (sz := s.heap.size)
  have hA : ∀ q : Nat, s.heap.size ≤ q → va_A [(xx, .inr (0, [.ref pr, .ref wy, .ref mc])), (pr, .inr (1, [.int kd, .int sz, .int ac, .ref po, .ref pn])), (po, .inl (cI, 64, .inl fo)), (pn, .inl (cI, 64, .inl fn))] s.heap.size q := fun q h => Or.inr h
  generalize va_A [(xx, .inr (0, [.ref pr, .ref wy, .ref mc])), (pr, .inr (1, [.int kd, .int sz, .int ac, .ref po, .ref pn])), (po, .inl (cI, 64, .inl fo)), (pn, .inl (cI, 64, .inl fn))] s.heap.size = A at hD hA hZ ⊢
  have hS : va_S A s.heap s.heap [] := va_S.rf
  have hP : va_P D classes [(xx, .inr (0, [.ref pr, .ref wy, .ref mc])), (pr, .inr (1, [.int kd, .int sz, .int ac, .ref po, .ref pn])), (po, .inl (cI, 64, .inl fo)), (pn, .inl (cI, 64, .inl fn))] s.heap := hP
  have hD : va_D A [(xx, .inr (0, [.ref pr, .ref wy, .ref mc])), (pr, .inr (1, [.int kd, .int sz, .int ac, .ref po, .ref pn])), (po, .inl (cI, 64, .inl fo)), (pn, .inl (cI, 64, .inl fn))] := hD
  have hl := lv_entry ([.ref xx, .int op, .int n]) (n := 3) (Nat.le_of_ble_eq_true rfl)
  rw [lg_entry_eq]
  generalize (lg_sl ([.ref xx, .int op, .int n]) ++ List.replicate (3 - (lg_sl ([.ref xx, .int op, .int n])).length) Slot.unset).toArray = ls at hl ⊢
  have hl : lv_has ls 3 [(0, .ref xx), (1, .int op), (2, .int n)] := hl
  refine lv_aload_n hx hb d_SJ_code_0 rfl (lv_at hl 0 rfl) ?_
  refine va_get (D := D) (ci := 0) (v := .ref pr) (C := R_SJ) (T := F_SJ) (N := 3) hx hb hts in_SJ hown hE.1 hP 0 rfl rfl 0 (by decide) (hts _ k_119) (fun _ h9 => h9) rfl d_SJ_code_1 ?_
  refine lv_iload_n hx hb d_SJ_code_4 rfl (lv_at hl 1 rfl) ?_
  refine lv_iload_n hx hb d_SJ_code_5 rfl (lv_at hl 2 rfl) ?_
  have hPc := hP.sub (ws' := [(pr, .inr (1, [.int kd, .int sz, .int ac, .ref po, .ref pn])), (po, .inl (cI, 64, .inl fo)), (pn, .inl (cI, 64, .inl fn))]) [1, 2, 3] rfl
  have hDc := hD.sub (ws' := [(pr, .inr (1, [.int kd, .int sz, .int ac, .ref po, .ref pn])), (po, .inl (cI, 64, .inl fo)), (pn, .inl (cI, 64, .inl fn))]) [1, 2, 3] (by decide) rfl
  have hFc := va_free (wc := [(pr, .inr (1, [.int kd, .int sz, .int ac, .ref po, .ref pn])), (po, .inl (cI, 64, .inl fo)), (pn, .inl (cI, 64, .inl fn))]) hD hS hA [1, 2, 3] rfl
  refine va_calli (va_runV (As := [.int op, .int n]) (rest := []) ⟨hx, hb, hml, hown, hts⟩ (c_Program_append l D cI cZ tN tG s.heap.size pr po pn kd sz ac fo fn op n) (cwV 2 hts (gd4 k_133 k_134 k_135 k_19 k_136) rfl rfl rfl (by decide +kernel) ⟨Nat.le_of_ble_eq_true rfl, Nat.le_of_ble_eq_true rfl⟩) ⟨MZ_blind, va_recv (q0 := 1) (ci := 1) hE.1 hP rfl rfl, mz_pre hE hZ hS hPc hDc hFc⟩ rfl rfl hl.1 rfl (lv_room (Nat.le_of_ble_eq_true rfl)) d_SJ_code_6 ⟨Nat.zero_le _, Nat.zero_le _⟩) hS (fun q _ h => hFc q h) hFc (fun r u t H1 locs ht hvm hw hB hz1 hk1 hS => ?_)
  obtain ⟨hP1, hD1⟩ := hB
  rw [ht] at hP1
  have hr1 := congrArg Prod.fst hw
  have hu1 := congrArg Prod.snd hw
  dsimp only at hr1 hu1
  subst hr1
  subst hu1
  obtain ⟨hP, hD⟩ := va_join (wr := [(xx, .inr (0, [.ref pr, .ref wy, .ref mc]))]) (w1 := [(pr, .inr (1, [.int kd, .int ((p_app op n (fo, fn, sz)).2.2.2), .int ac, .ref po, .ref pn])), (po, .inl (cI, 64, .inl ((p_app op n (fo, fn, sz)).2.1))), (pn, .inl (cI, 64, .inl ((p_app op n (fo, fn, sz)).2.2.1)))]) hP hD [1, 2, 3] [0] rfl rfl (by decide) (by decide) hk1 hFc hP1 hD1
  generalize H1 = H at hP hS ⊢
  have hP : va_P D classes [(xx, .inr (0, [.ref pr, .ref wy, .ref mc])), (pr, .inr (1, [.int kd, .int ((p_app op n (fo, fn, sz)).2.2.2), .int ac, .ref po, .ref pn])), (po, .inl (cI, 64, .inl ((p_app op n (fo, fn, sz)).2.1))), (pn, .inl (cI, 64, .inl ((p_app op n (fo, fn, sz)).2.2.1)))] H := hP
  have hD : va_D A [(xx, .inr (0, [.ref pr, .ref wy, .ref mc])), (pr, .inr (1, [.int kd, .int ((p_app op n (fo, fn, sz)).2.2.2), .int ac, .ref po, .ref pn])), (po, .inl (cI, 64, .inl ((p_app op n (fo, fn, sz)).2.1))), (pn, .inl (cI, 64, .inl ((p_app op n (fo, fn, sz)).2.2.1)))] := hD
  refine lv_if_eq (tgt := 24) hx hb d_SJ_code_9 (by decide) (fun h1 => ?_) (fun h1 => ?_)
  · -- (p_app op n (fo, fn, sz)).1 = 0
    refine lv_bipush (v := (-3)) hx hb d_SJ_code_24 (by decide) ?_
    refine W.iret hx hb hr (fun t ht hW => ⟨⟨(-3), (p_app op n (fo, fn, sz)).2, rfl, ?_, ?_⟩, hS.F ht⟩) hS.2.2 d_SJ_code_26
    · exact ⟨by simp only [h1, if_true, if_false, eq_self, not_true_eq_false, not_false_eq_true, ne_eq], rfl⟩
    · exact ⟨by rw [ht]; exact hP.sub [0, 1, 2, 3] rfl, hD.sub [0, 1, 2, 3] (by decide) rfl⟩
  · -- ¬ (p_app op n (fo, fn, sz)).1 = 0
    refine lv_aload_n hx hb d_SJ_code_12 rfl (lv_at hl 0 rfl) ?_
    refine va_get (D := D) (ci := 0) (v := .ref pr) (C := R_SJ) (T := F_SJ) (N := 3) hx hb hts in_SJ hown hE.1 hP 0 rfl rfl 0 (by decide) (hts _ k_119) (fun _ h9 => h9) rfl d_SJ_code_13 ?_
    refine va_get (D := D) (ci := 1) (v := .int ((p_app op n (fo, fn, sz)).2.2.2)) (C := R_Program) (T := F_Program) (N := 5) hx hb hts in_Program hown hE.1 hP 1 rfl rfl 1 (by decide) (hts _ k_43) (fun _ h9 => h9) rfl d_SJ_code_16 ?_
    refine lv_iconst (v := 1) hx hb d_SJ_code_19 (by decide) ?_
    refine lv_isub hx hb d_SJ_code_20 ?_
    refine lv_goto (tgt := 26) hx hb d_SJ_code_21 (by decide) ?_
    refine W.iret hx hb hr (fun t ht hW => ⟨⟨((p_app op n (fo, fn, sz)).2.2.2 - 1), (p_app op n (fo, fn, sz)).2, rfl, ?_, ?_⟩, hS.F ht⟩) hS.2.2 d_SJ_code_26
    · exact ⟨by simp only [h1, if_true, if_false, eq_self, not_true_eq_false, not_false_eq_true, ne_eq], rfl⟩
    · exact ⟨by rw [ht]; exact hP.sub [0, 1, 2, 3] rfl, hD.sub [0, 1, 2, 3] (by decide) rfl⟩
set_option maxHeartbeats 4000000 in
set_option maxRecDepth 100000 in
theorem c_SJ_clear (l : Launch) (D : va_G) (cI cZ : ClassId) (tN tG : Nat) (hz : Nat) (xx wy mc : Nat) (pr po pn : Nat) (kd sz ac : Int32) (fo fn : Nat → Int32) : Met l y_SJ_clear w_SJ_clear (rmk 1) (va_Pc [.ref xx] (MZ D cI cZ tN tG [(xx, .inr (0, [.ref pr, .ref wy, .ref mc])), (pr, .inr (1, [.int kd, .int sz, .int ac, .ref po, .ref pn])), (po, .inl (cI, 64, .inl fo)), (pn, .inl (cI, 64, .inl fn))] hz)) (va_Qi (fun (r : Int32) (_ : Unit) => r = sz) (fun u t => ME D (va_A [(xx, .inr (0, [.ref pr, .ref wy, .ref mc])), (pr, .inr (1, [.int kd, .int sz, .int ac, .ref po, .ref pn])), (po, .inl (cI, 64, .inl fo)), (pn, .inl (cI, 64, .inl fn))] hz) [(xx, .inr (0, [.ref pr, .ref wy, .ref mc])), (pr, .inr (1, [.int kd, .int 0, .int ac, .ref po, .ref pn])), (po, .inl (cI, 64, .inl fo)), (pn, .inl (cI, 64, .inl fn))] t) (va_A [(xx, .inr (0, [.ref pr, .ref wy, .ref mc])), (pr, .inr (1, [.int kd, .int sz, .int ac, .ref po, .ref pn])), (po, .inl (cI, 64, .inl fo)), (pn, .inl (cI, 64, .inl fn))] hz)) 0 0 (va_A [(xx, .inr (0, [.ref pr, .ref wy, .ref mc])), (pr, .inr (1, [.int kd, .int sz, .int ac, .ref po, .ref pn])), (po, .inl (cI, 64, .inl fo)), (pn, .inl (cI, 64, .inl fn))] hz) := by
  refine Met.ofW (cc := b_SJ_clear) (maxL := 2) (ret := (some .int)) (by decide) rfl ?_
  intro p e s m args below meth c s₁ B hml hv
  obtain ⟨rfl, hsz, hP, hE, hD0, hZ⟩ := hv
  have hx := B.exec
  have hb := B.bytes
  have hr := B.returns
  have hts : ∀ w ∈ gW, w.before _ s = true := fun w h => atoms_spec (ws := w_SJ_clear) B.pre w (List.mem_cons_of_mem _ h)
  have hown : s.vm.findClass R_SJ = some m.cls := findClass_of_methodNamed B.named
  have hlocks := B.notSynchronized
  subst hsz
  have hD := hD0.self (sz := s.heap.size)
  have hA : ∀ q : Nat, s.heap.size ≤ q → va_A [(xx, .inr (0, [.ref pr, .ref wy, .ref mc])), (pr, .inr (1, [.int kd, .int sz, .int ac, .ref po, .ref pn])), (po, .inl (cI, 64, .inl fo)), (pn, .inl (cI, 64, .inl fn))] s.heap.size q := fun q h => Or.inr h
  generalize va_A [(xx, .inr (0, [.ref pr, .ref wy, .ref mc])), (pr, .inr (1, [.int kd, .int sz, .int ac, .ref po, .ref pn])), (po, .inl (cI, 64, .inl fo)), (pn, .inl (cI, 64, .inl fn))] s.heap.size = A at hD hA hZ ⊢
  have hS : va_S A s.heap s.heap [] := va_S.rf
  have hP : va_P D classes [(xx, .inr (0, [.ref pr, .ref wy, .ref mc])), (pr, .inr (1, [.int kd, .int sz, .int ac, .ref po, .ref pn])), (po, .inl (cI, 64, .inl fo)), (pn, .inl (cI, 64, .inl fn))] s.heap := hP
  have hD : va_D A [(xx, .inr (0, [.ref pr, .ref wy, .ref mc])), (pr, .inr (1, [.int kd, .int sz, .int ac, .ref po, .ref pn])), (po, .inl (cI, 64, .inl fo)), (pn, .inl (cI, 64, .inl fn))] := hD
  have hl := lv_entry ([.ref xx]) (n := 2) (Nat.le_of_ble_eq_true rfl)
  rw [lg_entry_eq]
  generalize (lg_sl ([.ref xx]) ++ List.replicate (2 - (lg_sl ([.ref xx])).length) Slot.unset).toArray = ls at hl ⊢
  have hl : lv_has ls 2 [(0, .ref xx)] := hl
  refine lv_aload_n hx hb d_SJ_clear_0 rfl (lv_at hl 0 rfl) ?_
  refine va_get (D := D) (ci := 0) (v := .ref pr) (C := R_SJ) (T := F_SJ) (N := 3) hx hb hts in_SJ hown hE.1 hP 0 rfl rfl 0 (by decide) (hts _ k_119) (fun _ h9 => h9) rfl d_SJ_clear_1 ?_
  refine va_get (D := D) (ci := 1) (v := .int sz) (C := R_Program) (T := F_Program) (N := 5) hx hb hts in_Program hown hE.1 hP 1 rfl rfl 1 (by decide) (hts _ k_43) (fun _ h9 => h9) rfl d_SJ_clear_4 ?_
  refine lv_istore_n hx hb d_SJ_clear_7 rfl hl (by decide) rfl (fun ls hl => ?_)
  have hl : lv_has ls 2 [(1, .int sz), (0, .ref xx)] := hl
  refine lv_aload_n hx hb d_SJ_clear_8 rfl (lv_at hl 1 rfl) ?_
  refine va_get (D := D) (ci := 0) (v := .ref pr) (C := R_SJ) (T := F_SJ) (N := 3) hx hb hts in_SJ hown hE.1 hP 0 rfl rfl 0 (by decide) (hts _ k_119) (fun _ h9 => h9) rfl d_SJ_clear_9 ?_
  refine lv_iconst (v := 0) hx hb d_SJ_clear_12 (by decide) ?_
  have hPc := hP.sub (ws' := [(pr, .inr (1, [.int kd, .int sz, .int ac, .ref po, .ref pn])), (po, .inl (cI, 64, .inl fo)), (pn, .inl (cI, 64, .inl fn))]) [1, 2, 3] rfl
  have hDc := hD.sub (ws' := [(pr, .inr (1, [.int kd, .int sz, .int ac, .ref po, .ref pn])), (po, .inl (cI, 64, .inl fo)), (pn, .inl (cI, 64, .inl fn))]) [1, 2, 3] (by decide) rfl
  have hFc := va_free (wc := [(pr, .inr (1, [.int kd, .int sz, .int ac, .ref po, .ref pn])), (po, .inl (cI, 64, .inl fo)), (pn, .inl (cI, 64, .inl fn))]) hD hS hA [1, 2, 3] rfl
  refine va_callv (va_runV (As := [.int 0]) (rest := []) ⟨hx, hb, hml, hown, hts⟩ (c_Program_keepFirst l D cI cZ tN tG s.heap.size pr po pn kd sz ac fo fn 0) (cwV 1 hts (gd4 k_144 k_145 k_146 k_19 k_147) rfl rfl rfl (by decide +kernel) ⟨Nat.le_of_ble_eq_true rfl, Nat.le_of_ble_eq_true rfl⟩) ⟨MZ_blind, va_recv (q0 := 1) (ci := 1) hE.1 hP rfl rfl, mz_pre hE hZ hS hPc hDc hFc⟩ rfl rfl hl.1 rfl (lv_room (Nat.le_of_ble_eq_true rfl)) d_SJ_clear_13 ⟨Nat.zero_le _, Nat.zero_le _⟩) hS (fun q _ h => hFc q h) hFc (fun u t H1 locs ht hvm hw hB hz1 hk1 hS => ?_)
  obtain ⟨hP1, hD1⟩ := hB
  rw [ht] at hP1
  obtain ⟨hP, hD⟩ := va_join (wr := [(xx, .inr (0, [.ref pr, .ref wy, .ref mc]))]) (w1 := [(pr, .inr (1, [.int kd, .int 0, .int ac, .ref po, .ref pn])), (po, .inl (cI, 64, .inl fo)), (pn, .inl (cI, 64, .inl fn))]) hP hD [1, 2, 3] [0] rfl rfl (by decide) (by decide) hk1 hFc hP1 hD1
  generalize H1 = H at hP hS ⊢
  have hP : va_P D classes [(xx, .inr (0, [.ref pr, .ref wy, .ref mc])), (pr, .inr (1, [.int kd, .int 0, .int ac, .ref po, .ref pn])), (po, .inl (cI, 64, .inl fo)), (pn, .inl (cI, 64, .inl fn))] H := hP
  have hD : va_D A [(xx, .inr (0, [.ref pr, .ref wy, .ref mc])), (pr, .inr (1, [.int kd, .int 0, .int ac, .ref po, .ref pn])), (po, .inl (cI, 64, .inl fo)), (pn, .inl (cI, 64, .inl fn))] := hD
  refine lv_iload_n hx hb d_SJ_clear_16 rfl (lv_at hl 0 rfl) ?_
  refine W.iret hx hb hr (fun t ht hW => ⟨⟨sz, (), rfl, ?_, ?_⟩, hS.F ht⟩) hS.2.2 d_SJ_clear_17
  · rfl
  · exact ⟨by rw [ht]; exact hP.sub [0, 1, 2, 3] rfl, hD.sub [0, 1, 2, 3] (by decide) rfl⟩
set_option maxHeartbeats 4000000 in
set_option maxRecDepth 100000 in
theorem c_SJ_drop (l : Launch) (D : va_G) (cI cZ : ClassId) (tN tG : Nat) (hz : Nat) (xx wy mc : Nat) (pr po pn : Nat) (kd sz ac : Int32) (fo fn : Nat → Int32) : Met l y_SJ_drop w_SJ_drop (rmk 1) (va_Pc [.ref xx] (MZ D cI cZ tN tG [(xx, .inr (0, [.ref pr, .ref wy, .ref mc])), (pr, .inr (1, [.int kd, .int sz, .int ac, .ref po, .ref pn])), (po, .inl (cI, 64, .inl fo)), (pn, .inl (cI, 64, .inl fn))] hz)) (va_Qi (fun (r : Int32) (u : Int32) => (r, u) = if sz = 0 then (-2, sz) else (sz - 1, sz - 1)) (fun u t => ME D (va_A [(xx, .inr (0, [.ref pr, .ref wy, .ref mc])), (pr, .inr (1, [.int kd, .int sz, .int ac, .ref po, .ref pn])), (po, .inl (cI, 64, .inl fo)), (pn, .inl (cI, 64, .inl fn))] hz) [(xx, .inr (0, [.ref pr, .ref wy, .ref mc])), (pr, .inr (1, [.int kd, .int u, .int ac, .ref po, .ref pn])), (po, .inl (cI, 64, .inl fo)), (pn, .inl (cI, 64, .inl fn))] t) (va_A [(xx, .inr (0, [.ref pr, .ref wy, .ref mc])), (pr, .inr (1, [.int kd, .int sz, .int ac, .ref po, .ref pn])), (po, .inl (cI, 64, .inl fo)), (pn, .inl (cI, 64, .inl fn))] hz)) 0 0 (va_A [(xx, .inr (0, [.ref pr, .ref wy, .ref mc])), (pr, .inr (1, [.int kd, .int sz, .int ac, .ref po, .ref pn])), (po, .inl (cI, 64, .inl fo)), (pn, .inl (cI, 64, .inl fn))] hz) := by
  refine Met.ofW (cc := b_SJ_drop) (maxL := 1) (ret := (some .int)) (by decide) rfl ?_
  intro p e s m args below meth c s₁ B hml hv
  obtain ⟨rfl, hsz, hP, hE, hD0, hZ⟩ := hv
  have hx := B.exec
  have hb := B.bytes
  have hr := B.returns
  have hts : ∀ w ∈ gW, w.before _ s = true := fun w h => atoms_spec (ws := w_SJ_drop) B.pre w (List.mem_cons_of_mem _ h)
  have hown : s.vm.findClass R_SJ = some m.cls := findClass_of_methodNamed B.named
  have hlocks := B.notSynchronized
  subst hsz
  have hD := hD0.self (sz := s.heap.size)
  have hA : ∀ q : Nat, s.heap.size ≤ q → va_A [(xx, .inr (0, [.ref pr, .ref wy, .ref mc])), (pr, .inr (1, [.int kd, .int sz, .int ac, .ref po, .ref pn])), (po, .inl (cI, 64, .inl fo)), (pn, .inl (cI, 64, .inl fn))] s.heap.size q := fun q h => Or.inr h
  generalize va_A [(xx, .inr (0, [.ref pr, .ref wy, .ref mc])), (pr, .inr (1, [.int kd, .int sz, .int ac, .ref po, .ref pn])), (po, .inl (cI, 64, .inl fo)), (pn, .inl (cI, 64, .inl fn))] s.heap.size = A at hD hA hZ ⊢
  have hS : va_S A s.heap s.heap [] := va_S.rf
  have hP : va_P D classes [(xx, .inr (0, [.ref pr, .ref wy, .ref mc])), (pr, .inr (1, [.int kd, .int sz, .int ac, .ref po, .ref pn])), (po, .inl (cI, 64, .inl fo)), (pn, .inl (cI, 64, .inl fn))] s.heap := hP
  have hD : va_D A [(xx, .inr (0, [.ref pr, .ref wy, .ref mc])), (pr, .inr (1, [.int kd, .int sz, .int ac, .ref po, .ref pn])), (po, .inl (cI, 64, .inl fo)), (pn, .inl (cI, 64, .inl fn))] := hD
  have hl := lv_entry ([.ref xx]) (n := 1) (Nat.le_of_ble_eq_true rfl)
  rw [lg_entry_eq]
  generalize (lg_sl ([.ref xx]) ++ List.replicate (1 - (lg_sl ([.ref xx])).length) Slot.unset).toArray = ls at hl ⊢
  have hl : lv_has ls 1 [(0, .ref xx)] := hl
  refine lv_aload_n hx hb d_SJ_drop_0 rfl (lv_at hl 0 rfl) ?_
  refine va_get (D := D) (ci := 0) (v := .ref pr) (C := R_SJ) (T := F_SJ) (N := 3) hx hb hts in_SJ hown hE.1 hP 0 rfl rfl 0 (by decide) (hts _ k_119) (fun _ h9 => h9) rfl d_SJ_drop_1 ?_
  refine va_get (D := D) (ci := 1) (v := .int sz) (C := R_Program) (T := F_Program) (N := 5) hx hb hts in_Program hown hE.1 hP 1 rfl rfl 1 (by decide) (hts _ k_43) (fun _ h9 => h9) rfl d_SJ_drop_4 ?_
  refine lv_if_ne (tgt := 13) hx hb d_SJ_drop_7 (by decide) (fun h1 => ?_) (fun h1 => ?_)
  · -- ¬ sz = 0
    refine lv_aload_n hx hb d_SJ_drop_13 rfl (lv_at hl 0 rfl) ?_
    refine va_get (D := D) (ci := 0) (v := .ref pr) (C := R_SJ) (T := F_SJ) (N := 3) hx hb hts in_SJ hown hE.1 hP 0 rfl rfl 0 (by decide) (hts _ k_119) (fun _ h9 => h9) rfl d_SJ_drop_14 ?_
    refine lv_aload_n hx hb d_SJ_drop_17 rfl (lv_at hl 0 rfl) ?_
    refine va_get (D := D) (ci := 0) (v := .ref pr) (C := R_SJ) (T := F_SJ) (N := 3) hx hb hts in_SJ hown hE.1 hP 0 rfl rfl 0 (by decide) (hts _ k_119) (fun _ h9 => h9) rfl d_SJ_drop_18 ?_
    refine va_get (D := D) (ci := 1) (v := .int sz) (C := R_Program) (T := F_Program) (N := 5) hx hb hts in_Program hown hE.1 hP 1 rfl rfl 1 (by decide) (hts _ k_43) (fun _ h9 => h9) rfl d_SJ_drop_21 ?_
    refine lv_iconst (v := 1) hx hb d_SJ_drop_24 (by decide) ?_
    refine lv_isub hx hb d_SJ_drop_25 ?_
    have hPc := hP.sub (ws' := [(pr, .inr (1, [.int kd, .int sz, .int ac, .ref po, .ref pn])), (po, .inl (cI, 64, .inl fo)), (pn, .inl (cI, 64, .inl fn))]) [1, 2, 3] rfl
    have hDc := hD.sub (ws' := [(pr, .inr (1, [.int kd, .int sz, .int ac, .ref po, .ref pn])), (po, .inl (cI, 64, .inl fo)), (pn, .inl (cI, 64, .inl fn))]) [1, 2, 3] (by decide) rfl
    have hFc := va_free (wc := [(pr, .inr (1, [.int kd, .int sz, .int ac, .ref po, .ref pn])), (po, .inl (cI, 64, .inl fo)), (pn, .inl (cI, 64, .inl fn))]) hD hS hA [1, 2, 3] rfl
    refine va_callv (va_runV (As := [.int (sz - 1)]) (rest := []) ⟨hx, hb, hml, hown, hts⟩ (c_Program_keepFirst l D cI cZ tN tG s.heap.size pr po pn kd sz ac fo fn (sz - 1)) (cwV 1 hts (gd4 k_144 k_145 k_146 k_19 k_147) rfl rfl rfl (by decide +kernel) ⟨Nat.le_of_ble_eq_true rfl, Nat.le_of_ble_eq_true rfl⟩) ⟨MZ_blind, va_recv (q0 := 1) (ci := 1) hE.1 hP rfl rfl, mz_pre hE hZ hS hPc hDc hFc⟩ rfl rfl hl.1 rfl (lv_room (Nat.le_of_ble_eq_true rfl)) d_SJ_drop_26 ⟨Nat.zero_le _, Nat.zero_le _⟩) hS (fun q _ h => hFc q h) hFc (fun u t H1 locs ht hvm hw hB hz1 hk1 hS => ?_)
    obtain ⟨hP1, hD1⟩ := hB
    rw [ht] at hP1
    obtain ⟨hP, hD⟩ := va_join (wr := [(xx, .inr (0, [.ref pr, .ref wy, .ref mc]))]) (w1 := [(pr, .inr (1, [.int kd, .int (sz - 1), .int ac, .ref po, .ref pn])), (po, .inl (cI, 64, .inl fo)), (pn, .inl (cI, 64, .inl fn))]) hP hD [1, 2, 3] [0] rfl rfl (by decide) (by decide) hk1 hFc hP1 hD1
    generalize H1 = H at hP hS ⊢
    have hP : va_P D classes [(xx, .inr (0, [.ref pr, .ref wy, .ref mc])), (pr, .inr (1, [.int kd, .int (sz - 1), .int ac, .ref po, .ref pn])), (po, .inl (cI, 64, .inl fo)), (pn, .inl (cI, 64, .inl fn))] H := hP
    have hD : va_D A [(xx, .inr (0, [.ref pr, .ref wy, .ref mc])), (pr, .inr (1, [.int kd, .int (sz - 1), .int ac, .ref po, .ref pn])), (po, .inl (cI, 64, .inl fo)), (pn, .inl (cI, 64, .inl fn))] := hD
    refine lv_aload_n hx hb d_SJ_drop_29 rfl (lv_at hl 0 rfl) ?_
    refine va_get (D := D) (ci := 0) (v := .ref pr) (C := R_SJ) (T := F_SJ) (N := 3) hx hb hts in_SJ hown hE.1 hP 0 rfl rfl 0 (by decide) (hts _ k_119) (fun _ h9 => h9) rfl d_SJ_drop_30 ?_
    refine va_get (D := D) (ci := 1) (v := .int (sz - 1)) (C := R_Program) (T := F_Program) (N := 5) hx hb hts in_Program hown hE.1 hP 1 rfl rfl 1 (by decide) (hts _ k_43) (fun _ h9 => h9) rfl d_SJ_drop_33 ?_
    refine W.iret hx hb hr (fun t ht hW => ⟨⟨(sz - 1), (sz - 1), rfl, ?_, ?_⟩, hS.F ht⟩) hS.2.2 d_SJ_drop_36
    · first | (simp only [h1, if_true, if_false, eq_self, not_true_eq_false, not_false_eq_true, ne_eq]; done) | (simp only [h1, if_true, if_false, eq_self, not_true_eq_false, not_false_eq_true, ne_eq]; rfl) | (simp [h1]; done)
    · exact ⟨by rw [ht]; exact hP.sub [0, 1, 2, 3] rfl, hD.sub [0, 1, 2, 3] (by decide) rfl⟩
  · -- sz = 0
    refine lv_bipush (v := (-2)) hx hb d_SJ_drop_10 (by decide) ?_
    refine W.iret hx hb hr (fun t ht hW => ⟨⟨(-2), sz, rfl, ?_, ?_⟩, hS.F ht⟩) hS.2.2 d_SJ_drop_12
    · first | (simp only [h1, if_true, if_false, eq_self, not_true_eq_false, not_false_eq_true, ne_eq]; done) | (simp only [h1, if_true, if_false, eq_self, not_true_eq_false, not_false_eq_true, ne_eq]; rfl) | (simp [h1]; done)
    · exact ⟨by rw [ht]; exact hP.sub [0, 1, 2, 3] rfl, hD.sub [0, 1, 2, 3] (by decide) rfl⟩
set_option maxHeartbeats 4000000 in
set_option maxRecDepth 100000 in
theorem c_SJ_check (l : Launch) (D : va_G) (cI cZ : ClassId) (tN tG : Nat) (hz : Nat) (xx wy mc : Nat) (pr po pn : Nat) (kd ac : Int32) (n : Nat) (fo fn : Nat → Int32) (re wa : Nat) (fr fw : Nat → Int32) (wc : Int32) (hn : n ≤ 64) : Met l y_SJ_check w_SJ_check (rmk 5) (va_Pc [.ref xx] (MZ D cI cZ tN tG [(xx, .inr (0, [.ref pr, .ref wy, .ref mc])), (pr, .inr (1, [.int kd, .int (nI n), .int ac, .ref po, .ref pn])), (po, .inl (cI, 64, .inl fo)), (pn, .inl (cI, 64, .inl fn)), (wy, .inr (2, [.ref re, .ref wa, .int wc])), (re, .inl (cI, 64, .inl fr)), (wa, .inl (cI, 576, .inl fw))] hz)) (va_Qi (fun (r : Int32) (u : WS) => r = j_chk kd ac n fo fn (fr, fw, wc) ∧ u = j_fol kd ac n fo fn (fr, fw, wc)) (fun u t => ME D (va_A [(xx, .inr (0, [.ref pr, .ref wy, .ref mc])), (pr, .inr (1, [.int kd, .int (nI n), .int ac, .ref po, .ref pn])), (po, .inl (cI, 64, .inl fo)), (pn, .inl (cI, 64, .inl fn)), (wy, .inr (2, [.ref re, .ref wa, .int wc])), (re, .inl (cI, 64, .inl fr)), (wa, .inl (cI, 576, .inl fw))] hz) [(xx, .inr (0, [.ref pr, .ref wy, .ref mc])), (pr, .inr (1, [.int kd, .int (nI n), .int ac, .ref po, .ref pn])), (po, .inl (cI, 64, .inl fo)), (pn, .inl (cI, 64, .inl fn)), (wy, .inr (2, [.ref re, .ref wa, .int u.2.2])), (re, .inl (cI, 64, .inl u.1)), (wa, .inl (cI, 576, .inl u.2.1))] t) (va_A [(xx, .inr (0, [.ref pr, .ref wy, .ref mc])), (pr, .inr (1, [.int kd, .int (nI n), .int ac, .ref po, .ref pn])), (po, .inl (cI, 64, .inl fo)), (pn, .inl (cI, 64, .inl fn)), (wy, .inr (2, [.ref re, .ref wa, .int wc])), (re, .inl (cI, 64, .inl fr)), (wa, .inl (cI, 576, .inl fw))] hz)) 0 0 (va_A [(xx, .inr (0, [.ref pr, .ref wy, .ref mc])), (pr, .inr (1, [.int kd, .int (nI n), .int ac, .ref po, .ref pn])), (po, .inl (cI, 64, .inl fo)), (pn, .inl (cI, 64, .inl fn)), (wy, .inr (2, [.ref re, .ref wa, .int wc])), (re, .inl (cI, 64, .inl fr)), (wa, .inl (cI, 576, .inl fw))] hz) := by
  refine Met.ofW (cc := b_SJ_check) (maxL := 1) (ret := (some .int)) (by decide) rfl ?_
  intro p e s m args below meth c s₁ B hml hv
  obtain ⟨rfl, hsz, hP, hE, hD0, hZ⟩ := hv
  have hx := B.exec
  have hb := B.bytes
  have hr := B.returns
  have hts : ∀ w ∈ gW, w.before _ s = true := fun w h => atoms_spec (ws := w_SJ_check) B.pre w (List.mem_cons_of_mem _ h)
  have hown : s.vm.findClass R_SJ = some m.cls := findClass_of_methodNamed B.named
  have hlocks := B.notSynchronized
  subst hsz
  have hD := hD0.self (sz := s.heap.size)
  have hA : ∀ q : Nat, s.heap.size ≤ q → va_A [(xx, .inr (0, [.ref pr, .ref wy, .ref mc])), (pr, .inr (1, [.int kd, .int (nI n), .int ac, .ref po, .ref pn])), (po, .inl (cI, 64, .inl fo)), (pn, .inl (cI, 64, .inl fn)), (wy, .inr (2, [.ref re, .ref wa, .int wc])), (re, .inl (cI, 64, .inl fr)), (wa, .inl (cI, 576, .inl fw))] s.heap.size q := fun q h => Or.inr h
  generalize va_A [(xx, .inr (0, [.ref pr, .ref wy, .ref mc])), (pr, .inr (1, [.int kd, .int (nI n), .int ac, .ref po, .ref pn])), (po, .inl (cI, 64, .inl fo)), (pn, .inl (cI, 64, .inl fn)), (wy, .inr (2, [.ref re, .ref wa, .int wc])), (re, .inl (cI, 64, .inl fr)), (wa, .inl (cI, 576, .inl fw))] s.heap.size = A at hD hA hZ ⊢
  have hS : va_S A s.heap s.heap [] := va_S.rf
  have hP : va_P D classes [(xx, .inr (0, [.ref pr, .ref wy, .ref mc])), (pr, .inr (1, [.int kd, .int (nI n), .int ac, .ref po, .ref pn])), (po, .inl (cI, 64, .inl fo)), (pn, .inl (cI, 64, .inl fn)), (wy, .inr (2, [.ref re, .ref wa, .int wc])), (re, .inl (cI, 64, .inl fr)), (wa, .inl (cI, 576, .inl fw))] s.heap := hP
  have hD : va_D A [(xx, .inr (0, [.ref pr, .ref wy, .ref mc])), (pr, .inr (1, [.int kd, .int (nI n), .int ac, .ref po, .ref pn])), (po, .inl (cI, 64, .inl fo)), (pn, .inl (cI, 64, .inl fn)), (wy, .inr (2, [.ref re, .ref wa, .int wc])), (re, .inl (cI, 64, .inl fr)), (wa, .inl (cI, 576, .inl fw))] := hD
  have hl := lv_entry ([.ref xx]) (n := 1) (Nat.le_of_ble_eq_true rfl)
  rw [lg_entry_eq]
  generalize (lg_sl ([.ref xx]) ++ List.replicate (1 - (lg_sl ([.ref xx])).length) Slot.unset).toArray = ls at hl ⊢
  have hl : lv_has ls 1 [(0, .ref xx)] := hl
  refine lv_aload_n hx hb d_SJ_check_0 rfl (lv_at hl 0 rfl) ?_
  refine va_get (D := D) (ci := 0) (v := .ref pr) (C := R_SJ) (T := F_SJ) (N := 3) hx hb hts in_SJ hown hE.1 hP 0 rfl rfl 0 (by decide) (hts _ k_119) (fun _ h9 => h9) rfl d_SJ_check_1 ?_
  refine va_get (D := D) (ci := 1) (v := .int (nI n)) (C := R_Program) (T := F_Program) (N := 5) hx hb hts in_Program hown hE.1 hP 1 rfl rfl 1 (by decide) (hts _ k_43) (fun _ h9 => h9) rfl d_SJ_check_4 ?_
  refine lv_if_ne (tgt := 13) hx hb d_SJ_check_7 (by decide) (fun h1 => ?_) (fun h1 => ?_)
  · -- ¬ (nI n) = 0
    refine lv_aload_n hx hb d_SJ_check_13 rfl (lv_at hl 0 rfl) ?_
    refine va_get (D := D) (ci := 0) (v := .ref wy) (C := R_SJ) (T := F_SJ) (N := 3) hx hb hts in_SJ hown hE.1 hP 0 rfl rfl 1 (by decide) (hts _ k_120) (fun _ h9 => h9) rfl d_SJ_check_14 ?_
    refine lv_aload_n hx hb d_SJ_check_17 rfl (lv_at hl 0 rfl) ?_
    refine va_get (D := D) (ci := 0) (v := .ref pr) (C := R_SJ) (T := F_SJ) (N := 3) hx hb hts in_SJ hown hE.1 hP 0 rfl rfl 0 (by decide) (hts _ k_119) (fun _ h9 => h9) rfl d_SJ_check_18 ?_
    have hPc := hP.sub (ws' := [(pr, .inr (1, [.int kd, .int (nI n), .int ac, .ref po, .ref pn])), (po, .inl (cI, 64, .inl fo)), (pn, .inl (cI, 64, .inl fn)), (wy, .inr (2, [.ref re, .ref wa, .int wc])), (re, .inl (cI, 64, .inl fr)), (wa, .inl (cI, 576, .inl fw))]) [1, 2, 3, 4, 5, 6] rfl
    have hDc := hD.sub (ws' := [(pr, .inr (1, [.int kd, .int (nI n), .int ac, .ref po, .ref pn])), (po, .inl (cI, 64, .inl fo)), (pn, .inl (cI, 64, .inl fn)), (wy, .inr (2, [.ref re, .ref wa, .int wc])), (re, .inl (cI, 64, .inl fr)), (wa, .inl (cI, 576, .inl fw))]) [1, 2, 3, 4, 5, 6] (by decide) rfl
    have hFc := va_free (wc := [(pr, .inr (1, [.int kd, .int (nI n), .int ac, .ref po, .ref pn])), (po, .inl (cI, 64, .inl fo)), (pn, .inl (cI, 64, .inl fn)), (wy, .inr (2, [.ref re, .ref wa, .int wc])), (re, .inl (cI, 64, .inl fr)), (wa, .inl (cI, 576, .inl fw))]) hD hS hA [1, 2, 3, 4, 5, 6] rfl
    refine va_callv (va_runV (As := [.ref pr]) (rest := []) ⟨hx, hb, hml, hown, hts⟩ (c_Ways_follow l D cI cZ tN tG s.heap.size pr po pn kd (nI n) ac fo fn wy re wa fr fw wc) (cwV 1 hts (gd4 k_156 k_157 k_158 k_20 k_159) rfl rfl rfl (by decide +kernel) ⟨Nat.le_of_ble_eq_true rfl, Nat.le_of_ble_eq_true rfl⟩) ⟨MZ_blind, va_recv (q0 := 4) (ci := 2) hE.1 hP rfl rfl, mz_pre hE hZ hS hPc hDc hFc⟩ rfl rfl hl.1 rfl (lv_room (Nat.le_of_ble_eq_true rfl)) d_SJ_check_21 ⟨Nat.zero_le _, Nat.zero_le _⟩) hS (fun q _ h => hFc q h) hFc (fun u t H1 locs ht hvm hw hB hz1 hk1 hS => ?_)
    obtain ⟨hP1, hD1⟩ := hB
    rw [ht] at hP1
    subst hw
    obtain ⟨hP, hD⟩ := va_join (wr := [(xx, .inr (0, [.ref pr, .ref wy, .ref mc]))]) (w1 := [(pr, .inr (1, [.int kd, .int (nI n), .int ac, .ref po, .ref pn])), (po, .inl (cI, 64, .inl fo)), (pn, .inl (cI, 64, .inl fn)), (wy, .inr (2, [.ref re, .ref wa, .int ((w_follow kd (nI n) ac fo fn fw).2.2)])), (re, .inl (cI, 64, .inl ((w_follow kd (nI n) ac fo fn fw).1))), (wa, .inl (cI, 576, .inl ((w_follow kd (nI n) ac fo fn fw).2.1)))]) hP hD [1, 2, 3, 4, 5, 6] [0] rfl rfl (by decide) (by decide) hk1 hFc hP1 hD1
    generalize H1 = H at hP hS ⊢
    have hP : va_P D classes [(xx, .inr (0, [.ref pr, .ref wy, .ref mc])), (pr, .inr (1, [.int kd, .int (nI n), .int ac, .ref po, .ref pn])), (po, .inl (cI, 64, .inl fo)), (pn, .inl (cI, 64, .inl fn)), (wy, .inr (2, [.ref re, .ref wa, .int ((w_follow kd (nI n) ac fo fn fw).2.2)])), (re, .inl (cI, 64, .inl ((w_follow kd (nI n) ac fo fn fw).1))), (wa, .inl (cI, 576, .inl ((w_follow kd (nI n) ac fo fn fw).2.1)))] H := hP
    have hD : va_D A [(xx, .inr (0, [.ref pr, .ref wy, .ref mc])), (pr, .inr (1, [.int kd, .int (nI n), .int ac, .ref po, .ref pn])), (po, .inl (cI, 64, .inl fo)), (pn, .inl (cI, 64, .inl fn)), (wy, .inr (2, [.ref re, .ref wa, .int ((w_follow kd (nI n) ac fo fn fw).2.2)])), (re, .inl (cI, 64, .inl ((w_follow kd (nI n) ac fo fn fw).1))), (wa, .inl (cI, 576, .inl ((w_follow kd (nI n) ac fo fn fw).2.1)))] := hD
    refine lv_aload_n hx hb d_SJ_check_24 rfl (lv_at hl 0 rfl) ?_
    refine va_get (D := D) (ci := 0) (v := .ref wy) (C := R_SJ) (T := F_SJ) (N := 3) hx hb hts in_SJ hown hE.1 hP 0 rfl rfl 1 (by decide) (hts _ k_120) (fun _ h9 => h9) rfl d_SJ_check_25 ?_
    refine lv_aload_n hx hb d_SJ_check_28 rfl (lv_at hl 0 rfl) ?_
    refine va_get (D := D) (ci := 0) (v := .ref pr) (C := R_SJ) (T := F_SJ) (N := 3) hx hb hts in_SJ hown hE.1 hP 0 rfl rfl 0 (by decide) (hts _ k_119) (fun _ h9 => h9) rfl d_SJ_check_29 ?_
    refine vp_callSi (va_Run.run (va_runV (As := [.ref pr]) (rest := []) ⟨hx, hb, hml, hown, hts⟩ (c_Ways_firstWrong l D cI cZ tN tG pr po pn kd ac n fo fn wy re wa ((w_follow kd (nI n) ac fo fn fw).1) ((w_follow kd (nI n) ac fo fn fw).2.1) ((w_follow kd (nI n) ac fo fn fw).2.2) hn) (cwV 1 hts (gd4 k_228 k_229 k_230 k_20 k_231) rfl rfl rfl (by decide +kernel) ⟨Nat.le_of_ble_eq_true rfl, Nat.le_of_ble_eq_true rfl⟩) ⟨PZ_blind, va_recv (q0 := 4) (ci := 2) hE.1 hP rfl rfl, pz_pre hE hZ hS (hP.sub [1, 2, 3, 4, 5, 6] rfl)⟩ rfl rfl hl.1 rfl (lv_room (Nat.le_of_ble_eq_true rfl)) d_SJ_check_32 ⟨Nat.zero_le _, Nat.zero_le _⟩)) (fun r hq => ?_)
    subst hq
    refine W.iret hx hb hr (fun t ht hW => ⟨⟨(w_first kd (nI n) ac fo fn ((w_follow kd (nI n) ac fo fn fw).1) n 0), (w_follow kd (nI n) ac fo fn fw), rfl, ?_, ?_⟩, hS.F ht⟩) hS.2.2 d_SJ_check_35
    · exact ⟨by simp only [j_chk, j_fol, h1, if_true, if_false, eq_self, not_true_eq_false, not_false_eq_true, ne_eq], by simp only [j_chk, j_fol, h1, if_true, if_false, eq_self, not_true_eq_false, not_false_eq_true, ne_eq]⟩
    · exact ⟨by rw [ht]; exact hP.sub [0, 1, 2, 3, 4, 5, 6] rfl, hD.sub [0, 1, 2, 3, 4, 5, 6] (by decide) rfl⟩
  · -- (nI n) = 0
    refine lv_bipush (v := 64) hx hb d_SJ_check_10 (by decide) ?_
    refine W.iret hx hb hr (fun t ht hW => ⟨⟨64, (fr, fw, wc), rfl, ?_, ?_⟩, hS.F ht⟩) hS.2.2 d_SJ_check_12
    · exact ⟨by simp only [j_chk, j_fol, h1, if_true, if_false, eq_self, not_true_eq_false, not_false_eq_true, ne_eq], by simp only [j_chk, j_fol, h1, if_true, if_false, eq_self, not_true_eq_false, not_false_eq_true, ne_eq]⟩
    · exact ⟨by rw [ht]; exact hP.sub [0, 1, 2, 3, 4, 5, 6] rfl, hD.sub [0, 1, 2, 3, 4, 5, 6] (by decide) rfl⟩
set_option maxHeartbeats 4000000 in
set_option maxRecDepth 100000 in
theorem c_SJ_heights (l : Launch) (D : va_G) (cI cZ : ClassId) (tN tG : Nat) (hz : Nat) (xx wy mc : Nat) (pr po pn : Nat) (kd ac : Int32) (n : Nat) (fo fn : Nat → Int32) (re wa : Nat) (fr fw : Nat → Int32) (wc : Int32) (k : Int32) : Met l y_SJ_heights w_SJ_heights (rmk 5) (va_Pc [.ref xx, .int k] (MZ D cI cZ tN tG [(xx, .inr (0, [.ref pr, .ref wy, .ref mc])), (pr, .inr (1, [.int kd, .int (nI n), .int ac, .ref po, .ref pn])), (po, .inl (cI, 64, .inl fo)), (pn, .inl (cI, 64, .inl fn)), (wy, .inr (2, [.ref re, .ref wa, .int wc])), (re, .inl (cI, 64, .inl fr)), (wa, .inl (cI, 576, .inl fw))] hz)) (va_Qi (fun (r : Int32) (u : WS) => (r, u) = j_hgt kd ac n fo fn k (fr, fw, wc)) (fun u t => ME D (va_A [(xx, .inr (0, [.ref pr, .ref wy, .ref mc])), (pr, .inr (1, [.int kd, .int (nI n), .int ac, .ref po, .ref pn])), (po, .inl (cI, 64, .inl fo)), (pn, .inl (cI, 64, .inl fn)), (wy, .inr (2, [.ref re, .ref wa, .int wc])), (re, .inl (cI, 64, .inl fr)), (wa, .inl (cI, 576, .inl fw))] hz) [(xx, .inr (0, [.ref pr, .ref wy, .ref mc])), (pr, .inr (1, [.int kd, .int (nI n), .int ac, .ref po, .ref pn])), (po, .inl (cI, 64, .inl fo)), (pn, .inl (cI, 64, .inl fn)), (wy, .inr (2, [.ref re, .ref wa, .int u.2.2])), (re, .inl (cI, 64, .inl u.1)), (wa, .inl (cI, 576, .inl u.2.1))] t) (va_A [(xx, .inr (0, [.ref pr, .ref wy, .ref mc])), (pr, .inr (1, [.int kd, .int (nI n), .int ac, .ref po, .ref pn])), (po, .inl (cI, 64, .inl fo)), (pn, .inl (cI, 64, .inl fn)), (wy, .inr (2, [.ref re, .ref wa, .int wc])), (re, .inl (cI, 64, .inl fr)), (wa, .inl (cI, 576, .inl fw))] hz)) 0 0 (va_A [(xx, .inr (0, [.ref pr, .ref wy, .ref mc])), (pr, .inr (1, [.int kd, .int (nI n), .int ac, .ref po, .ref pn])), (po, .inl (cI, 64, .inl fo)), (pn, .inl (cI, 64, .inl fn)), (wy, .inr (2, [.ref re, .ref wa, .int wc])), (re, .inl (cI, 64, .inl fr)), (wa, .inl (cI, 576, .inl fw))] hz) := by
  refine Met.ofW (cc := b_SJ_heights) (maxL := 2) (ret := (some .int)) (by decide) rfl ?_
  intro p e s m args below meth c s₁ B hml hv
  obtain ⟨rfl, hsz, hP, hE, hD0, hZ⟩ := hv
  have hx := B.exec
  have hb := B.bytes
  have hr := B.returns
  have hts : ∀ w ∈ gW, w.before _ s = true := fun w h => atoms_spec (ws := w_SJ_heights) B.pre w (List.mem_cons_of_mem _ h)
  have hown : s.vm.findClass R_SJ = some m.cls := findClass_of_methodNamed B.named
  have hlocks := B.notSynchronized
  subst hsz
  have hD := hD0.self (sz := s.heap.size)
  have hA : ∀ q : Nat, s.heap.size ≤ q → va_A [(xx, .inr (0, [.ref pr, .ref wy, .ref mc])), (pr, .inr (1, [.int kd, .int (nI n), .int ac, .ref po, .ref pn])), (po, .inl (cI, 64, .inl fo)), (pn, .inl (cI, 64, .inl fn)), (wy, .inr (2, [.ref re, .ref wa, .int wc])), (re, .inl (cI, 64, .inl fr)), (wa, .inl (cI, 576, .inl fw))] s.heap.size q := fun q h => Or.inr h
  generalize va_A [(xx, .inr (0, [.ref pr, .ref wy, .ref mc])), (pr, .inr (1, [.int kd, .int (nI n), .int ac, .ref po, .ref pn])), (po, .inl (cI, 64, .inl fo)), (pn, .inl (cI, 64, .inl fn)), (wy, .inr (2, [.ref re, .ref wa, .int wc])), (re, .inl (cI, 64, .inl fr)), (wa, .inl (cI, 576, .inl fw))] s.heap.size = A at hD hA hZ ⊢
  have hS : va_S A s.heap s.heap [] := va_S.rf
  have hP : va_P D classes [(xx, .inr (0, [.ref pr, .ref wy, .ref mc])), (pr, .inr (1, [.int kd, .int (nI n), .int ac, .ref po, .ref pn])), (po, .inl (cI, 64, .inl fo)), (pn, .inl (cI, 64, .inl fn)), (wy, .inr (2, [.ref re, .ref wa, .int wc])), (re, .inl (cI, 64, .inl fr)), (wa, .inl (cI, 576, .inl fw))] s.heap := hP
  have hD : va_D A [(xx, .inr (0, [.ref pr, .ref wy, .ref mc])), (pr, .inr (1, [.int kd, .int (nI n), .int ac, .ref po, .ref pn])), (po, .inl (cI, 64, .inl fo)), (pn, .inl (cI, 64, .inl fn)), (wy, .inr (2, [.ref re, .ref wa, .int wc])), (re, .inl (cI, 64, .inl fr)), (wa, .inl (cI, 576, .inl fw))] := hD
  have hl := lv_entry ([.ref xx, .int k]) (n := 2) (Nat.le_of_ble_eq_true rfl)
  rw [lg_entry_eq]
  generalize (lg_sl ([.ref xx, .int k]) ++ List.replicate (2 - (lg_sl ([.ref xx, .int k])).length) Slot.unset).toArray = ls at hl ⊢
  have hl : lv_has ls 2 [(0, .ref xx), (1, .int k)] := hl
  refine lv_aload_n hx hb d_SJ_heights_0 rfl (lv_at hl 0 rfl) ?_
  refine va_get (D := D) (ci := 0) (v := .ref pr) (C := R_SJ) (T := F_SJ) (N := 3) hx hb hts in_SJ hown hE.1 hP 0 rfl rfl 0 (by decide) (hts _ k_119) (fun _ h9 => h9) rfl d_SJ_heights_1 ?_
  refine lv_iload_n hx hb d_SJ_heights_4 rfl (lv_at hl 1 rfl) ?_
  refine vp_callSi (va_Run.run (va_runV (As := [.int k]) (rest := []) ⟨hx, hb, hml, hown, hts⟩ (c_Program_has l D cI cZ tN tG pr po pn kd (nI n) ac fo fn k) (cwV 1 hts (gd4 k_247 k_168 k_169 k_19 k_170) rfl rfl rfl (by decide +kernel) ⟨Nat.le_of_ble_eq_true rfl, Nat.le_of_ble_eq_true rfl⟩) ⟨PZ_blind, va_recv (q0 := 1) (ci := 1) hE.1 hP rfl rfl, pz_pre hE hZ hS (hP.sub [1, 2, 3] rfl)⟩ rfl rfl hl.1 rfl (lv_room (Nat.le_of_ble_eq_true rfl)) d_SJ_heights_5 ⟨Nat.zero_le _, Nat.zero_le _⟩)) (fun r hq => ?_)
  subst hq
  refine lv_if_ne (tgt := 13) hx hb d_SJ_heights_8 (by decide) (fun h1 => ?_) (fun h1 => ?_)
  · -- ¬ (p_has (nI n) k) = 0
    refine lv_aload_n hx hb d_SJ_heights_13 rfl (lv_at hl 0 rfl) ?_
    refine va_get (D := D) (ci := 0) (v := .ref wy) (C := R_SJ) (T := F_SJ) (N := 3) hx hb hts in_SJ hown hE.1 hP 0 rfl rfl 1 (by decide) (hts _ k_120) (fun _ h9 => h9) rfl d_SJ_heights_14 ?_
    refine lv_aload_n hx hb d_SJ_heights_17 rfl (lv_at hl 0 rfl) ?_
    refine va_get (D := D) (ci := 0) (v := .ref pr) (C := R_SJ) (T := F_SJ) (N := 3) hx hb hts in_SJ hown hE.1 hP 0 rfl rfl 0 (by decide) (hts _ k_119) (fun _ h9 => h9) rfl d_SJ_heights_18 ?_
    have hPc := hP.sub (ws' := [(pr, .inr (1, [.int kd, .int (nI n), .int ac, .ref po, .ref pn])), (po, .inl (cI, 64, .inl fo)), (pn, .inl (cI, 64, .inl fn)), (wy, .inr (2, [.ref re, .ref wa, .int wc])), (re, .inl (cI, 64, .inl fr)), (wa, .inl (cI, 576, .inl fw))]) [1, 2, 3, 4, 5, 6] rfl
    have hDc := hD.sub (ws' := [(pr, .inr (1, [.int kd, .int (nI n), .int ac, .ref po, .ref pn])), (po, .inl (cI, 64, .inl fo)), (pn, .inl (cI, 64, .inl fn)), (wy, .inr (2, [.ref re, .ref wa, .int wc])), (re, .inl (cI, 64, .inl fr)), (wa, .inl (cI, 576, .inl fw))]) [1, 2, 3, 4, 5, 6] (by decide) rfl
    have hFc := va_free (wc := [(pr, .inr (1, [.int kd, .int (nI n), .int ac, .ref po, .ref pn])), (po, .inl (cI, 64, .inl fo)), (pn, .inl (cI, 64, .inl fn)), (wy, .inr (2, [.ref re, .ref wa, .int wc])), (re, .inl (cI, 64, .inl fr)), (wa, .inl (cI, 576, .inl fw))]) hD hS hA [1, 2, 3, 4, 5, 6] rfl
    refine va_callv (va_runV (As := [.ref pr]) (rest := []) ⟨hx, hb, hml, hown, hts⟩ (c_Ways_follow l D cI cZ tN tG s.heap.size pr po pn kd (nI n) ac fo fn wy re wa fr fw wc) (cwV 1 hts (gd4 k_156 k_157 k_158 k_20 k_159) rfl rfl rfl (by decide +kernel) ⟨Nat.le_of_ble_eq_true rfl, Nat.le_of_ble_eq_true rfl⟩) ⟨MZ_blind, va_recv (q0 := 4) (ci := 2) hE.1 hP rfl rfl, mz_pre hE hZ hS hPc hDc hFc⟩ rfl rfl hl.1 rfl (lv_room (Nat.le_of_ble_eq_true rfl)) d_SJ_heights_21 ⟨Nat.zero_le _, Nat.zero_le _⟩) hS (fun q _ h => hFc q h) hFc (fun u t H1 locs ht hvm hw hB hz1 hk1 hS => ?_)
    obtain ⟨hP1, hD1⟩ := hB
    rw [ht] at hP1
    subst hw
    obtain ⟨hP, hD⟩ := va_join (wr := [(xx, .inr (0, [.ref pr, .ref wy, .ref mc]))]) (w1 := [(pr, .inr (1, [.int kd, .int (nI n), .int ac, .ref po, .ref pn])), (po, .inl (cI, 64, .inl fo)), (pn, .inl (cI, 64, .inl fn)), (wy, .inr (2, [.ref re, .ref wa, .int ((w_follow kd (nI n) ac fo fn fw).2.2)])), (re, .inl (cI, 64, .inl ((w_follow kd (nI n) ac fo fn fw).1))), (wa, .inl (cI, 576, .inl ((w_follow kd (nI n) ac fo fn fw).2.1)))]) hP hD [1, 2, 3, 4, 5, 6] [0] rfl rfl (by decide) (by decide) hk1 hFc hP1 hD1
    generalize H1 = H at hP hS ⊢
    have hP : va_P D classes [(xx, .inr (0, [.ref pr, .ref wy, .ref mc])), (pr, .inr (1, [.int kd, .int (nI n), .int ac, .ref po, .ref pn])), (po, .inl (cI, 64, .inl fo)), (pn, .inl (cI, 64, .inl fn)), (wy, .inr (2, [.ref re, .ref wa, .int ((w_follow kd (nI n) ac fo fn fw).2.2)])), (re, .inl (cI, 64, .inl ((w_follow kd (nI n) ac fo fn fw).1))), (wa, .inl (cI, 576, .inl ((w_follow kd (nI n) ac fo fn fw).2.1)))] H := hP
    have hD : va_D A [(xx, .inr (0, [.ref pr, .ref wy, .ref mc])), (pr, .inr (1, [.int kd, .int (nI n), .int ac, .ref po, .ref pn])), (po, .inl (cI, 64, .inl fo)), (pn, .inl (cI, 64, .inl fn)), (wy, .inr (2, [.ref re, .ref wa, .int ((w_follow kd (nI n) ac fo fn fw).2.2)])), (re, .inl (cI, 64, .inl ((w_follow kd (nI n) ac fo fn fw).1))), (wa, .inl (cI, 576, .inl ((w_follow kd (nI n) ac fo fn fw).2.1)))] := hD
    refine lv_aload_n hx hb d_SJ_heights_24 rfl (lv_at hl 0 rfl) ?_
    refine va_get (D := D) (ci := 0) (v := .ref wy) (C := R_SJ) (T := F_SJ) (N := 3) hx hb hts in_SJ hown hE.1 hP 0 rfl rfl 1 (by decide) (hts _ k_120) (fun _ h9 => h9) rfl d_SJ_heights_25 ?_
    refine va_get (D := D) (ci := 2) (v := .ref re) (C := R_Ways) (T := F_Ways) (N := 3) hx hb hts in_Ways hown hE.1 hP 4 rfl rfl 0 (by decide) (hts _ k_67) (fun _ h9 => h9) rfl d_SJ_heights_28 ?_
    refine lv_iload_n hx hb d_SJ_heights_31 rfl (lv_at hl 1 rfl) ?_
    refine vp_callSi (va_Run.run (va_runS (As := [.ref re, .int k]) (rest := []) ⟨hx, hb, hml, hown, hts⟩ (c_SJ_read l re 64 ((w_follow kd (nI n) ac fo fn fw).1) k (by decide)) (cwS 2 hts (gd3 k_248 k_176 k_18 k_177) rfl rfl rfl (by decide +kernel) ⟨Nat.le_of_ble_eq_true rfl, Nat.le_of_ble_eq_true rfl⟩) (rp_pre hE.1 hP 5 0 rfl rfl) rfl rfl hl.1 rfl (lv_room (Nat.le_of_ble_eq_true rfl)) d_SJ_heights_32 ⟨Nat.zero_le _, Nat.zero_le _⟩)) (fun r hq => ?_)
    subst hq
    refine W.iret hx hb hr (fun t ht hW => ⟨⟨(rd ((w_follow kd (nI n) ac fo fn fw).1) 64 k), (w_follow kd (nI n) ac fo fn fw), rfl, ?_, ?_⟩, hS.F ht⟩) hS.2.2 d_SJ_heights_35
    · first | (simp only [j_hgt, h1, if_true, if_false, eq_self, not_true_eq_false, not_false_eq_true, ne_eq]; done) | (simp only [j_hgt, h1, if_true, if_false, eq_self, not_true_eq_false, not_false_eq_true, ne_eq]; rfl) | (simp [j_hgt, h1]; done)
    · exact ⟨by rw [ht]; exact hP.sub [0, 1, 2, 3, 4, 5, 6] rfl, hD.sub [0, 1, 2, 3, 4, 5, 6] (by decide) rfl⟩
  · -- (p_has (nI n) k) = 0
    refine lv_iconst (v := (-1)) hx hb d_SJ_heights_11 (by decide) ?_
    refine W.iret hx hb hr (fun t ht hW => ⟨⟨(-1), (fr, fw, wc), rfl, ?_, ?_⟩, hS.F ht⟩) hS.2.2 d_SJ_heights_12
    · first | (simp only [j_hgt, h1, if_true, if_false, eq_self, not_true_eq_false, not_false_eq_true, ne_eq]; done) | (simp only [j_hgt, h1, if_true, if_false, eq_self, not_true_eq_false, not_false_eq_true, ne_eq]; rfl) | (simp [j_hgt, h1]; done)
    · exact ⟨by rw [ht]; exact hP.sub [0, 1, 2, 3, 4, 5, 6] rfl, hD.sub [0, 1, 2, 3, 4, 5, 6] (by decide) rfl⟩
set_option maxHeartbeats 4000000 in
set_option maxRecDepth 100000 in
theorem c_SJ_call (l : Launch) (D : va_G) (cI cZ : ClassId) (tN tG : Nat) (hz : Nat) (xx wy : Nat) (pr po pn : Nat) (kd ac : Int32) (n : Nat) (fo fn : Nat → Int32) (re wa : Nat) (fr fw : Nat → Int32) (wc : Int32) (mc ky vy gy ly sy : Nat) (res stp pcn : Int32) (fk fv fa fl fs : Nat → Int32) (hgt ap : Int32) (x y z : Int32) (hn : n ≤ 64) : Met l y_SJ_call w_SJ_call (rmk 6) (va_Pc [.ref xx, .int x, .int y, .int z] (MZ D cI cZ tN tG [(xx, .inr (0, [.ref pr, .ref wy, .ref mc])), (pr, .inr (1, [.int kd, .int (nI n), .int ac, .ref po, .ref pn])), (po, .inl (cI, 64, .inl fo)), (pn, .inl (cI, 64, .inl fn)), (wy, .inr (2, [.ref re, .ref wa, .int wc])), (re, .inl (cI, 64, .inl fr)), (wa, .inl (cI, 576, .inl fw)), (mc, .inr (3, [.int res, .int stp, .int pcn, .ref ky, .ref vy, .ref gy, .ref ly, .ref sy, .int hgt, .int ap])), (ky, .inl (cI, 20, .inl fk)), (vy, .inl (cI, 20, .inl fv)), (gy, .inl (cI, 3, .inl fa)), (ly, .inl (cI, 4, .inl fl)), (sy, .inl (cI, 8, .inl fs))] hz)) (va_Qi (fun (r : Int32) (u : WS × MS) => (r, u) = j_call kd ac n fo fn x y z (fr, fw, wc) (res, stp, pcn, fk, fv, fa, fl, fs, hgt, ap)) (fun u t => ME D (va_A [(xx, .inr (0, [.ref pr, .ref wy, .ref mc])), (pr, .inr (1, [.int kd, .int (nI n), .int ac, .ref po, .ref pn])), (po, .inl (cI, 64, .inl fo)), (pn, .inl (cI, 64, .inl fn)), (wy, .inr (2, [.ref re, .ref wa, .int wc])), (re, .inl (cI, 64, .inl fr)), (wa, .inl (cI, 576, .inl fw)), (mc, .inr (3, [.int res, .int stp, .int pcn, .ref ky, .ref vy, .ref gy, .ref ly, .ref sy, .int hgt, .int ap])), (ky, .inl (cI, 20, .inl fk)), (vy, .inl (cI, 20, .inl fv)), (gy, .inl (cI, 3, .inl fa)), (ly, .inl (cI, 4, .inl fl)), (sy, .inl (cI, 8, .inl fs))] hz) [(xx, .inr (0, [.ref pr, .ref wy, .ref mc])), (pr, .inr (1, [.int kd, .int (nI n), .int ac, .ref po, .ref pn])), (po, .inl (cI, 64, .inl fo)), (pn, .inl (cI, 64, .inl fn)), (wy, .inr (2, [.ref re, .ref wa, .int u.1.2.2])), (re, .inl (cI, 64, .inl u.1.1)), (wa, .inl (cI, 576, .inl u.1.2.1)), (mc, .inr (3, [.int u.2.1, .int u.2.2.1, .int u.2.2.2.1, .ref ky, .ref vy, .ref gy, .ref ly, .ref sy, .int u.2.2.2.2.2.2.2.2.2.1, .int u.2.2.2.2.2.2.2.2.2.2])), (ky, .inl (cI, 20, .inl u.2.2.2.2.1)), (vy, .inl (cI, 20, .inl u.2.2.2.2.2.1)), (gy, .inl (cI, 3, .inl u.2.2.2.2.2.2.1)), (ly, .inl (cI, 4, .inl u.2.2.2.2.2.2.2.1)), (sy, .inl (cI, 8, .inl u.2.2.2.2.2.2.2.2.1))] t) (va_A [(xx, .inr (0, [.ref pr, .ref wy, .ref mc])), (pr, .inr (1, [.int kd, .int (nI n), .int ac, .ref po, .ref pn])), (po, .inl (cI, 64, .inl fo)), (pn, .inl (cI, 64, .inl fn)), (wy, .inr (2, [.ref re, .ref wa, .int wc])), (re, .inl (cI, 64, .inl fr)), (wa, .inl (cI, 576, .inl fw)), (mc, .inr (3, [.int res, .int stp, .int pcn, .ref ky, .ref vy, .ref gy, .ref ly, .ref sy, .int hgt, .int ap])), (ky, .inl (cI, 20, .inl fk)), (vy, .inl (cI, 20, .inl fv)), (gy, .inl (cI, 3, .inl fa)), (ly, .inl (cI, 4, .inl fl)), (sy, .inl (cI, 8, .inl fs))] hz)) 0 0 (va_A [(xx, .inr (0, [.ref pr, .ref wy, .ref mc])), (pr, .inr (1, [.int kd, .int (nI n), .int ac, .ref po, .ref pn])), (po, .inl (cI, 64, .inl fo)), (pn, .inl (cI, 64, .inl fn)), (wy, .inr (2, [.ref re, .ref wa, .int wc])), (re, .inl (cI, 64, .inl fr)), (wa, .inl (cI, 576, .inl fw)), (mc, .inr (3, [.int res, .int stp, .int pcn, .ref ky, .ref vy, .ref gy, .ref ly, .ref sy, .int hgt, .int ap])), (ky, .inl (cI, 20, .inl fk)), (vy, .inl (cI, 20, .inl fv)), (gy, .inl (cI, 3, .inl fa)), (ly, .inl (cI, 4, .inl fl)), (sy, .inl (cI, 8, .inl fs))] hz) := by
  refine Met.ofW (cc := b_SJ_call) (maxL := 4) (ret := (some .int)) (by decide) rfl ?_
  intro p e s m args below meth c s₁ B hml hv
  obtain ⟨rfl, hsz, hP, hE, hD0, hZ⟩ := hv
  have hx := B.exec
  have hb := B.bytes
  have hr := B.returns
  have hts : ∀ w ∈ gW, w.before _ s = true := fun w h => atoms_spec (ws := w_SJ_call) B.pre w (List.mem_cons_of_mem _ h)
  have hown : s.vm.findClass R_SJ = some m.cls := findClass_of_methodNamed B.named
  have hlocks := B.notSynchronized
  subst hsz
  have hD := hD0.self (sz := s.heap.size)
  have hA : ∀ q : Nat, s.heap.size ≤ q → va_A [(xx, .inr (0, [.ref pr, .ref wy, .ref mc])), (pr, .inr (1, [.int kd, .int (nI n), .int ac, .ref po, .ref pn])), (po, .inl (cI, 64, .inl fo)), (pn, .inl (cI, 64, .inl fn)), (wy, .inr (2, [.ref re, .ref wa, .int wc])), (re, .inl (cI, 64, .inl fr)), (wa, .inl (cI, 576, .inl fw)), (mc, .inr (3, [.int res, .int stp, .int pcn, .ref ky, .ref vy, .ref gy, .ref ly, .ref sy, .int hgt, .int ap])), (ky, .inl (cI, 20, .inl fk)), (vy, .inl (cI, 20, .inl fv)), (gy, .inl (cI, 3, .inl fa)), (ly, .inl (cI, 4, .inl fl)), (sy, .inl (cI, 8, .inl fs))] s.heap.size q := fun q h => Or.inr h
  generalize va_A [(xx, .inr (0, [.ref pr, .ref wy, .ref mc])), (pr, .inr (1, [.int kd, .int (nI n), .int ac, .ref po, .ref pn])), (po, .inl (cI, 64, .inl fo)), (pn, .inl (cI, 64, .inl fn)), (wy, .inr (2, [.ref re, .ref wa, .int wc])), (re, .inl (cI, 64, .inl fr)), (wa, .inl (cI, 576, .inl fw)), (mc, .inr (3, [.int res, .int stp, .int pcn, .ref ky, .ref vy, .ref gy, .ref ly, .ref sy, .int hgt, .int ap])), (ky, .inl (cI, 20, .inl fk)), (vy, .inl (cI, 20, .inl fv)), (gy, .inl (cI, 3, .inl fa)), (ly, .inl (cI, 4, .inl fl)), (sy, .inl (cI, 8, .inl fs))] s.heap.size = A at hD hA hZ ⊢
  have hS : va_S A s.heap s.heap [] := va_S.rf
  have hP : va_P D classes [(xx, .inr (0, [.ref pr, .ref wy, .ref mc])), (pr, .inr (1, [.int kd, .int (nI n), .int ac, .ref po, .ref pn])), (po, .inl (cI, 64, .inl fo)), (pn, .inl (cI, 64, .inl fn)), (wy, .inr (2, [.ref re, .ref wa, .int wc])), (re, .inl (cI, 64, .inl fr)), (wa, .inl (cI, 576, .inl fw)), (mc, .inr (3, [.int res, .int stp, .int pcn, .ref ky, .ref vy, .ref gy, .ref ly, .ref sy, .int hgt, .int ap])), (ky, .inl (cI, 20, .inl fk)), (vy, .inl (cI, 20, .inl fv)), (gy, .inl (cI, 3, .inl fa)), (ly, .inl (cI, 4, .inl fl)), (sy, .inl (cI, 8, .inl fs))] s.heap := hP
  have hD : va_D A [(xx, .inr (0, [.ref pr, .ref wy, .ref mc])), (pr, .inr (1, [.int kd, .int (nI n), .int ac, .ref po, .ref pn])), (po, .inl (cI, 64, .inl fo)), (pn, .inl (cI, 64, .inl fn)), (wy, .inr (2, [.ref re, .ref wa, .int wc])), (re, .inl (cI, 64, .inl fr)), (wa, .inl (cI, 576, .inl fw)), (mc, .inr (3, [.int res, .int stp, .int pcn, .ref ky, .ref vy, .ref gy, .ref ly, .ref sy, .int hgt, .int ap])), (ky, .inl (cI, 20, .inl fk)), (vy, .inl (cI, 20, .inl fv)), (gy, .inl (cI, 3, .inl fa)), (ly, .inl (cI, 4, .inl fl)), (sy, .inl (cI, 8, .inl fs))] := hD
  have hl := lv_entry ([.ref xx, .int x, .int y, .int z]) (n := 4) (Nat.le_of_ble_eq_true rfl)
  rw [lg_entry_eq]
  generalize (lg_sl ([.ref xx, .int x, .int y, .int z]) ++ List.replicate (4 - (lg_sl ([.ref xx, .int x, .int y, .int z])).length) Slot.unset).toArray = ls at hl ⊢
  have hl : lv_has ls 4 [(0, .ref xx), (1, .int x), (2, .int y), (3, .int z)] := hl
  refine lv_aload_n hx hb d_SJ_call_0 rfl (lv_at hl 0 rfl) ?_
  have hPc := hP.sub (ws' := [(xx, .inr (0, [.ref pr, .ref wy, .ref mc])), (pr, .inr (1, [.int kd, .int (nI n), .int ac, .ref po, .ref pn])), (po, .inl (cI, 64, .inl fo)), (pn, .inl (cI, 64, .inl fn)), (wy, .inr (2, [.ref re, .ref wa, .int wc])), (re, .inl (cI, 64, .inl fr)), (wa, .inl (cI, 576, .inl fw))]) [0, 1, 2, 3, 4, 5, 6] rfl
  have hDc := hD.sub (ws' := [(xx, .inr (0, [.ref pr, .ref wy, .ref mc])), (pr, .inr (1, [.int kd, .int (nI n), .int ac, .ref po, .ref pn])), (po, .inl (cI, 64, .inl fo)), (pn, .inl (cI, 64, .inl fn)), (wy, .inr (2, [.ref re, .ref wa, .int wc])), (re, .inl (cI, 64, .inl fr)), (wa, .inl (cI, 576, .inl fw))]) [0, 1, 2, 3, 4, 5, 6] (by decide) rfl
  have hFc := va_free (wc := [(xx, .inr (0, [.ref pr, .ref wy, .ref mc])), (pr, .inr (1, [.int kd, .int (nI n), .int ac, .ref po, .ref pn])), (po, .inl (cI, 64, .inl fo)), (pn, .inl (cI, 64, .inl fn)), (wy, .inr (2, [.ref re, .ref wa, .int wc])), (re, .inl (cI, 64, .inl fr)), (wa, .inl (cI, 576, .inl fw))]) hD hS hA [0, 1, 2, 3, 4, 5, 6] rfl
  refine va_calli (va_runV (As := []) (rest := []) ⟨hx, hb, hml, hown, hts⟩ (c_SJ_check l D cI cZ tN tG s.heap.size xx wy mc pr po pn kd ac n fo fn re wa fr fw wc hn) (cwV 0 hts (gd4 k_253 k_153 k_154 k_18 k_155) rfl rfl rfl (by decide +kernel) ⟨Nat.le_of_ble_eq_true rfl, Nat.le_of_ble_eq_true rfl⟩) ⟨MZ_blind, va_recv (q0 := 0) (ci := 0) hE.1 hP rfl rfl, mz_pre hE hZ hS hPc hDc hFc⟩ rfl rfl hl.1 rfl (lv_room (Nat.le_of_ble_eq_true rfl)) d_SJ_call_1 ⟨Nat.zero_le _, Nat.zero_le _⟩) hS (fun q _ h => hFc q h) hFc (fun r u t H1 locs ht hvm hw hB hz1 hk1 hS => ?_)
  obtain ⟨hP1, hD1⟩ := hB
  rw [ht] at hP1
  obtain ⟨hr1, hw1⟩ := hw
  subst hr1
  subst hw1
  obtain ⟨hP, hD⟩ := va_join (wr := [(mc, .inr (3, [.int res, .int stp, .int pcn, .ref ky, .ref vy, .ref gy, .ref ly, .ref sy, .int hgt, .int ap])), (ky, .inl (cI, 20, .inl fk)), (vy, .inl (cI, 20, .inl fv)), (gy, .inl (cI, 3, .inl fa)), (ly, .inl (cI, 4, .inl fl)), (sy, .inl (cI, 8, .inl fs))]) (w1 := [(xx, .inr (0, [.ref pr, .ref wy, .ref mc])), (pr, .inr (1, [.int kd, .int (nI n), .int ac, .ref po, .ref pn])), (po, .inl (cI, 64, .inl fo)), (pn, .inl (cI, 64, .inl fn)), (wy, .inr (2, [.ref re, .ref wa, .int ((j_fol kd ac n fo fn (fr, fw, wc)).2.2)])), (re, .inl (cI, 64, .inl ((j_fol kd ac n fo fn (fr, fw, wc)).1))), (wa, .inl (cI, 576, .inl ((j_fol kd ac n fo fn (fr, fw, wc)).2.1)))]) hP hD [0, 1, 2, 3, 4, 5, 6] [7, 8, 9, 10, 11, 12] rfl rfl (by decide) (by decide) hk1 hFc hP1 hD1
  generalize H1 = H at hP hS ⊢
  have hP : va_P D classes [(mc, .inr (3, [.int res, .int stp, .int pcn, .ref ky, .ref vy, .ref gy, .ref ly, .ref sy, .int hgt, .int ap])), (ky, .inl (cI, 20, .inl fk)), (vy, .inl (cI, 20, .inl fv)), (gy, .inl (cI, 3, .inl fa)), (ly, .inl (cI, 4, .inl fl)), (sy, .inl (cI, 8, .inl fs)), (xx, .inr (0, [.ref pr, .ref wy, .ref mc])), (pr, .inr (1, [.int kd, .int (nI n), .int ac, .ref po, .ref pn])), (po, .inl (cI, 64, .inl fo)), (pn, .inl (cI, 64, .inl fn)), (wy, .inr (2, [.ref re, .ref wa, .int ((j_fol kd ac n fo fn (fr, fw, wc)).2.2)])), (re, .inl (cI, 64, .inl ((j_fol kd ac n fo fn (fr, fw, wc)).1))), (wa, .inl (cI, 576, .inl ((j_fol kd ac n fo fn (fr, fw, wc)).2.1)))] H := hP
  have hD : va_D A [(mc, .inr (3, [.int res, .int stp, .int pcn, .ref ky, .ref vy, .ref gy, .ref ly, .ref sy, .int hgt, .int ap])), (ky, .inl (cI, 20, .inl fk)), (vy, .inl (cI, 20, .inl fv)), (gy, .inl (cI, 3, .inl fa)), (ly, .inl (cI, 4, .inl fl)), (sy, .inl (cI, 8, .inl fs)), (xx, .inr (0, [.ref pr, .ref wy, .ref mc])), (pr, .inr (1, [.int kd, .int (nI n), .int ac, .ref po, .ref pn])), (po, .inl (cI, 64, .inl fo)), (pn, .inl (cI, 64, .inl fn)), (wy, .inr (2, [.ref re, .ref wa, .int ((j_fol kd ac n fo fn (fr, fw, wc)).2.2)])), (re, .inl (cI, 64, .inl ((j_fol kd ac n fo fn (fr, fw, wc)).1))), (wa, .inl (cI, 576, .inl ((j_fol kd ac n fo fn (fr, fw, wc)).2.1)))] := hD
  refine lv_bipush (v := (-2)) hx hb d_SJ_call_4 (by decide) ?_
  refine lv_icmp_eq (tgt := 12) hx hb d_SJ_call_6 (by decide) (fun h1 => ?_) (fun h1 => ?_)
  · -- (j_chk kd ac n fo fn (fr, fw, wc)) = (-2)
    refine lv_aload_n hx hb d_SJ_call_12 rfl (lv_at hl 0 rfl) ?_
    refine va_get (D := D) (ci := 0) (v := .ref mc) (C := R_SJ) (T := F_SJ) (N := 3) hx hb hts in_SJ hown hE.1 hP 6 rfl rfl 2 (by decide) (hts _ k_121) (fun _ h9 => h9) rfl d_SJ_call_13 ?_
    refine lv_aload_n hx hb d_SJ_call_16 rfl (lv_at hl 0 rfl) ?_
    refine va_get (D := D) (ci := 0) (v := .ref pr) (C := R_SJ) (T := F_SJ) (N := 3) hx hb hts in_SJ hown hE.1 hP 6 rfl rfl 0 (by decide) (hts _ k_119) (fun _ h9 => h9) rfl d_SJ_call_17 ?_
    refine lv_iload_n hx hb d_SJ_call_20 rfl (lv_at hl 1 rfl) ?_
    refine lv_iload_n hx hb d_SJ_call_21 rfl (lv_at hl 2 rfl) ?_
    refine lv_iload_n hx hb d_SJ_call_22 rfl (lv_at hl 3 rfl) ?_
    have hPc := hP.sub (ws' := [(pr, .inr (1, [.int kd, .int (nI n), .int ac, .ref po, .ref pn])), (po, .inl (cI, 64, .inl fo)), (pn, .inl (cI, 64, .inl fn)), (mc, .inr (3, [.int res, .int stp, .int pcn, .ref ky, .ref vy, .ref gy, .ref ly, .ref sy, .int hgt, .int ap])), (ky, .inl (cI, 20, .inl fk)), (vy, .inl (cI, 20, .inl fv)), (gy, .inl (cI, 3, .inl fa)), (ly, .inl (cI, 4, .inl fl)), (sy, .inl (cI, 8, .inl fs))]) [7, 8, 9, 0, 1, 2, 3, 4, 5] rfl
    have hDc := hD.sub (ws' := [(pr, .inr (1, [.int kd, .int (nI n), .int ac, .ref po, .ref pn])), (po, .inl (cI, 64, .inl fo)), (pn, .inl (cI, 64, .inl fn)), (mc, .inr (3, [.int res, .int stp, .int pcn, .ref ky, .ref vy, .ref gy, .ref ly, .ref sy, .int hgt, .int ap])), (ky, .inl (cI, 20, .inl fk)), (vy, .inl (cI, 20, .inl fv)), (gy, .inl (cI, 3, .inl fa)), (ly, .inl (cI, 4, .inl fl)), (sy, .inl (cI, 8, .inl fs))]) [7, 8, 9, 0, 1, 2, 3, 4, 5] (by decide) rfl
    have hFc := va_free (wc := [(pr, .inr (1, [.int kd, .int (nI n), .int ac, .ref po, .ref pn])), (po, .inl (cI, 64, .inl fo)), (pn, .inl (cI, 64, .inl fn)), (mc, .inr (3, [.int res, .int stp, .int pcn, .ref ky, .ref vy, .ref gy, .ref ly, .ref sy, .int hgt, .int ap])), (ky, .inl (cI, 20, .inl fk)), (vy, .inl (cI, 20, .inl fv)), (gy, .inl (cI, 3, .inl fa)), (ly, .inl (cI, 4, .inl fl)), (sy, .inl (cI, 8, .inl fs))]) hD hS hA [7, 8, 9, 0, 1, 2, 3, 4, 5] rfl
    refine va_calli (va_runV (As := [.ref pr, .int x, .int y, .int z]) (rest := []) ⟨hx, hb, hml, hown, hts⟩ (c_Machine_run l D cI cZ tN tG H.size pr po pn kd (nI n) ac fo fn mc ky vy gy ly sy res stp pcn fk fv fa fl fs hgt ap x y z) (cwV 4 hts (gd4 k_254 k_255 k_256 k_21 k_257) rfl rfl rfl (by decide +kernel) ⟨Nat.le_of_ble_eq_true rfl, Nat.le_of_ble_eq_true rfl⟩) ⟨MZ_blind, va_recv (q0 := 0) (ci := 3) hE.1 hP rfl rfl, mz_pre hE hZ hS hPc hDc hFc⟩ rfl rfl hl.1 rfl (lv_room (Nat.le_of_ble_eq_true rfl)) d_SJ_call_23 ⟨Nat.zero_le _, Nat.zero_le _⟩) hS (fun q _ h => hFc q h) hFc (fun r u t H1 locs ht hvm hw hB hz1 hk1 hS => ?_)
    obtain ⟨hP1, hD1⟩ := hB
    rw [ht] at hP1
    have hr1 := congrArg Prod.fst hw
    have hu1 := congrArg Prod.snd hw
    dsimp only at hr1 hu1
    subst hr1
    subst hu1
    obtain ⟨hP, hD⟩ := va_join (wr := [(xx, .inr (0, [.ref pr, .ref wy, .ref mc])), (wy, .inr (2, [.ref re, .ref wa, .int ((j_fol kd ac n fo fn (fr, fw, wc)).2.2)])), (re, .inl (cI, 64, .inl ((j_fol kd ac n fo fn (fr, fw, wc)).1))), (wa, .inl (cI, 576, .inl ((j_fol kd ac n fo fn (fr, fw, wc)).2.1)))]) (w1 := [(pr, .inr (1, [.int kd, .int (nI n), .int ac, .ref po, .ref pn])), (po, .inl (cI, 64, .inl fo)), (pn, .inl (cI, 64, .inl fn)), (mc, .inr (3, [.int ((m_run kd fo fn x y z (res, stp, pcn, fk, fv, fa, fl, fs, hgt, ap)).2.1), .int ((m_run kd fo fn x y z (res, stp, pcn, fk, fv, fa, fl, fs, hgt, ap)).2.2.1), .int ((m_run kd fo fn x y z (res, stp, pcn, fk, fv, fa, fl, fs, hgt, ap)).2.2.2.1), .ref ky, .ref vy, .ref gy, .ref ly, .ref sy, .int ((m_run kd fo fn x y z (res, stp, pcn, fk, fv, fa, fl, fs, hgt, ap)).2.2.2.2.2.2.2.2.2.1), .int ((m_run kd fo fn x y z (res, stp, pcn, fk, fv, fa, fl, fs, hgt, ap)).2.2.2.2.2.2.2.2.2.2)])), (ky, .inl (cI, 20, .inl ((m_run kd fo fn x y z (res, stp, pcn, fk, fv, fa, fl, fs, hgt, ap)).2.2.2.2.1))), (vy, .inl (cI, 20, .inl ((m_run kd fo fn x y z (res, stp, pcn, fk, fv, fa, fl, fs, hgt, ap)).2.2.2.2.2.1))), (gy, .inl (cI, 3, .inl ((m_run kd fo fn x y z (res, stp, pcn, fk, fv, fa, fl, fs, hgt, ap)).2.2.2.2.2.2.1))), (ly, .inl (cI, 4, .inl ((m_run kd fo fn x y z (res, stp, pcn, fk, fv, fa, fl, fs, hgt, ap)).2.2.2.2.2.2.2.1))), (sy, .inl (cI, 8, .inl ((m_run kd fo fn x y z (res, stp, pcn, fk, fv, fa, fl, fs, hgt, ap)).2.2.2.2.2.2.2.2.1)))]) hP hD [7, 8, 9, 0, 1, 2, 3, 4, 5] [6, 10, 11, 12] rfl rfl (by decide) (by decide) hk1 hFc hP1 hD1
    generalize H1 = H at hP hS ⊢
    have hP : va_P D classes [(xx, .inr (0, [.ref pr, .ref wy, .ref mc])), (wy, .inr (2, [.ref re, .ref wa, .int ((j_fol kd ac n fo fn (fr, fw, wc)).2.2)])), (re, .inl (cI, 64, .inl ((j_fol kd ac n fo fn (fr, fw, wc)).1))), (wa, .inl (cI, 576, .inl ((j_fol kd ac n fo fn (fr, fw, wc)).2.1))), (pr, .inr (1, [.int kd, .int (nI n), .int ac, .ref po, .ref pn])), (po, .inl (cI, 64, .inl fo)), (pn, .inl (cI, 64, .inl fn)), (mc, .inr (3, [.int ((m_run kd fo fn x y z (res, stp, pcn, fk, fv, fa, fl, fs, hgt, ap)).2.1), .int ((m_run kd fo fn x y z (res, stp, pcn, fk, fv, fa, fl, fs, hgt, ap)).2.2.1), .int ((m_run kd fo fn x y z (res, stp, pcn, fk, fv, fa, fl, fs, hgt, ap)).2.2.2.1), .ref ky, .ref vy, .ref gy, .ref ly, .ref sy, .int ((m_run kd fo fn x y z (res, stp, pcn, fk, fv, fa, fl, fs, hgt, ap)).2.2.2.2.2.2.2.2.2.1), .int ((m_run kd fo fn x y z (res, stp, pcn, fk, fv, fa, fl, fs, hgt, ap)).2.2.2.2.2.2.2.2.2.2)])), (ky, .inl (cI, 20, .inl ((m_run kd fo fn x y z (res, stp, pcn, fk, fv, fa, fl, fs, hgt, ap)).2.2.2.2.1))), (vy, .inl (cI, 20, .inl ((m_run kd fo fn x y z (res, stp, pcn, fk, fv, fa, fl, fs, hgt, ap)).2.2.2.2.2.1))), (gy, .inl (cI, 3, .inl ((m_run kd fo fn x y z (res, stp, pcn, fk, fv, fa, fl, fs, hgt, ap)).2.2.2.2.2.2.1))), (ly, .inl (cI, 4, .inl ((m_run kd fo fn x y z (res, stp, pcn, fk, fv, fa, fl, fs, hgt, ap)).2.2.2.2.2.2.2.1))), (sy, .inl (cI, 8, .inl ((m_run kd fo fn x y z (res, stp, pcn, fk, fv, fa, fl, fs, hgt, ap)).2.2.2.2.2.2.2.2.1)))] H := hP
    have hD : va_D A [(xx, .inr (0, [.ref pr, .ref wy, .ref mc])), (wy, .inr (2, [.ref re, .ref wa, .int ((j_fol kd ac n fo fn (fr, fw, wc)).2.2)])), (re, .inl (cI, 64, .inl ((j_fol kd ac n fo fn (fr, fw, wc)).1))), (wa, .inl (cI, 576, .inl ((j_fol kd ac n fo fn (fr, fw, wc)).2.1))), (pr, .inr (1, [.int kd, .int (nI n), .int ac, .ref po, .ref pn])), (po, .inl (cI, 64, .inl fo)), (pn, .inl (cI, 64, .inl fn)), (mc, .inr (3, [.int ((m_run kd fo fn x y z (res, stp, pcn, fk, fv, fa, fl, fs, hgt, ap)).2.1), .int ((m_run kd fo fn x y z (res, stp, pcn, fk, fv, fa, fl, fs, hgt, ap)).2.2.1), .int ((m_run kd fo fn x y z (res, stp, pcn, fk, fv, fa, fl, fs, hgt, ap)).2.2.2.1), .ref ky, .ref vy, .ref gy, .ref ly, .ref sy, .int ((m_run kd fo fn x y z (res, stp, pcn, fk, fv, fa, fl, fs, hgt, ap)).2.2.2.2.2.2.2.2.2.1), .int ((m_run kd fo fn x y z (res, stp, pcn, fk, fv, fa, fl, fs, hgt, ap)).2.2.2.2.2.2.2.2.2.2)])), (ky, .inl (cI, 20, .inl ((m_run kd fo fn x y z (res, stp, pcn, fk, fv, fa, fl, fs, hgt, ap)).2.2.2.2.1))), (vy, .inl (cI, 20, .inl ((m_run kd fo fn x y z (res, stp, pcn, fk, fv, fa, fl, fs, hgt, ap)).2.2.2.2.2.1))), (gy, .inl (cI, 3, .inl ((m_run kd fo fn x y z (res, stp, pcn, fk, fv, fa, fl, fs, hgt, ap)).2.2.2.2.2.2.1))), (ly, .inl (cI, 4, .inl ((m_run kd fo fn x y z (res, stp, pcn, fk, fv, fa, fl, fs, hgt, ap)).2.2.2.2.2.2.2.1))), (sy, .inl (cI, 8, .inl ((m_run kd fo fn x y z (res, stp, pcn, fk, fv, fa, fl, fs, hgt, ap)).2.2.2.2.2.2.2.2.1)))] := hD
    refine W.iret hx hb hr (fun t ht hW => ⟨⟨(m_run kd fo fn x y z (res, stp, pcn, fk, fv, fa, fl, fs, hgt, ap)).1, ((j_fol kd ac n fo fn (fr, fw, wc)), ((m_run kd fo fn x y z (res, stp, pcn, fk, fv, fa, fl, fs, hgt, ap)).2.1, (m_run kd fo fn x y z (res, stp, pcn, fk, fv, fa, fl, fs, hgt, ap)).2.2.1, (m_run kd fo fn x y z (res, stp, pcn, fk, fv, fa, fl, fs, hgt, ap)).2.2.2.1, (m_run kd fo fn x y z (res, stp, pcn, fk, fv, fa, fl, fs, hgt, ap)).2.2.2.2.1, (m_run kd fo fn x y z (res, stp, pcn, fk, fv, fa, fl, fs, hgt, ap)).2.2.2.2.2.1, (m_run kd fo fn x y z (res, stp, pcn, fk, fv, fa, fl, fs, hgt, ap)).2.2.2.2.2.2.1, (m_run kd fo fn x y z (res, stp, pcn, fk, fv, fa, fl, fs, hgt, ap)).2.2.2.2.2.2.2.1, (m_run kd fo fn x y z (res, stp, pcn, fk, fv, fa, fl, fs, hgt, ap)).2.2.2.2.2.2.2.2.1, (m_run kd fo fn x y z (res, stp, pcn, fk, fv, fa, fl, fs, hgt, ap)).2.2.2.2.2.2.2.2.2.1, (m_run kd fo fn x y z (res, stp, pcn, fk, fv, fa, fl, fs, hgt, ap)).2.2.2.2.2.2.2.2.2.2)), rfl, ?_, ?_⟩, hS.F ht⟩) hS.2.2 d_SJ_call_26
    · first | (simp only [j_call, h1, if_true, if_false, eq_self, not_true_eq_false, not_false_eq_true, ne_eq]; done) | (simp only [j_call, h1, if_true, if_false, eq_self, not_true_eq_false, not_false_eq_true, ne_eq]; rfl) | (simp [j_call, h1]; done)
    · exact ⟨by rw [ht]; exact hP.sub [0, 4, 5, 6, 1, 2, 3, 7, 8, 9, 10, 11, 12] rfl, hD.sub [0, 4, 5, 6, 1, 2, 3, 7, 8, 9, 10, 11, 12] (by decide) rfl⟩
  · -- ¬ (j_chk kd ac n fo fn (fr, fw, wc)) = (-2)
    refine lv_bipush (v := (-2)) hx hb d_SJ_call_9 (by decide) ?_
    refine W.iret hx hb hr (fun t ht hW => ⟨⟨(-2), ((j_fol kd ac n fo fn (fr, fw, wc)), (res, stp, pcn, fk, fv, fa, fl, fs, hgt, ap)), rfl, ?_, ?_⟩, hS.F ht⟩) hS.2.2 d_SJ_call_11
    · first | (simp only [j_call, h1, if_true, if_false, eq_self, not_true_eq_false, not_false_eq_true, ne_eq]; done) | (simp only [j_call, h1, if_true, if_false, eq_self, not_true_eq_false, not_false_eq_true, ne_eq]; rfl) | (simp [j_call, h1]; done)
    · exact ⟨by rw [ht]; exact hP.sub [6, 7, 8, 9, 10, 11, 12, 0, 1, 2, 3, 4, 5] rfl, hD.sub [6, 7, 8, 9, 10, 11, 12, 0, 1, 2, 3, 4, 5] (by decide) rfl⟩
set_option maxHeartbeats 4000000 in
set_option maxRecDepth 100000 in
theorem c_SJ_result (l : Launch) (D : va_G) (cI cZ : ClassId) (tN tG : Nat) (xx pr wy : Nat) (mc ky vy gy ly sy : Nat) (res stp pcn : Int32) (fk fv fa fl fs : Nat → Int32) (hgt ap : Int32) : Met l y_SJ_result w_SJ_result (rmk 0) (va_Pc [.ref xx] (PZ D cI cZ tN tG [(xx, .inr (0, [.ref pr, .ref wy, .ref mc])), (mc, .inr (3, [.int res, .int stp, .int pcn, .ref ky, .ref vy, .ref gy, .ref ly, .ref sy, .int hgt, .int ap])), (ky, .inl (cI, 20, .inl fk)), (vy, .inl (cI, 20, .inl fv)), (gy, .inl (cI, 3, .inl fa)), (ly, .inl (cI, 4, .inl fl)), (sy, .inl (cI, 8, .inl fs))])) (vp_Si (fun r => r = res)) 0 0 (fun _ => False) := by
  refine Met.ofW (cc := b_SJ_result) (maxL := 1) (ret := (some .int)) (by decide) rfl ?_
  intro p e s m args below meth c s₁ B hml hv
  obtain ⟨rfl, hP, hE, hZ⟩ := hv
  have hx := B.exec
  have hb := B.bytes
  have hr := B.returns
  have hts : ∀ w ∈ gW, w.before _ s = true := fun w h => atoms_spec (ws := w_SJ_result) B.pre w (List.mem_cons_of_mem _ h)
  have hown : s.vm.findClass R_SJ = some m.cls := findClass_of_methodNamed B.named
  have hlocks := B.notSynchronized
  have hS : va_S (fun _ => False) s.heap s.heap [] := va_S.rf
  have hP : va_P D classes [(xx, .inr (0, [.ref pr, .ref wy, .ref mc])), (mc, .inr (3, [.int res, .int stp, .int pcn, .ref ky, .ref vy, .ref gy, .ref ly, .ref sy, .int hgt, .int ap])), (ky, .inl (cI, 20, .inl fk)), (vy, .inl (cI, 20, .inl fv)), (gy, .inl (cI, 3, .inl fa)), (ly, .inl (cI, 4, .inl fl)), (sy, .inl (cI, 8, .inl fs))] s.heap := hP
  have hl := lv_entry ([.ref xx]) (n := 1) (Nat.le_of_ble_eq_true rfl)
  rw [lg_entry_eq]
  generalize (lg_sl ([.ref xx]) ++ List.replicate (1 - (lg_sl ([.ref xx])).length) Slot.unset).toArray = ls at hl ⊢
  have hl : lv_has ls 1 [(0, .ref xx)] := hl
  refine lv_aload_n hx hb d_SJ_result_0 rfl (lv_at hl 0 rfl) ?_
  refine va_get (D := D) (ci := 0) (v := .ref mc) (C := R_SJ) (T := F_SJ) (N := 3) hx hb hts in_SJ hown hE.1 hP 0 rfl rfl 2 (by decide) (hts _ k_121) (fun _ h9 => h9) rfl d_SJ_result_1 ?_
  refine va_get (D := D) (ci := 3) (v := .int res) (C := R_Machine) (T := F_Machine) (N := 10) hx hb hts in_Machine hown hE.1 hP 1 rfl rfl 0 (by decide) (hts _ k_84) (fun _ h9 => h9) rfl d_SJ_result_4 ?_
  refine W.iret hx hb hr (fun t ht hW => ⟨_, rfl, ?_, ht⟩) (fun q h => by cases h) d_SJ_result_7
  show res = res
  rfl
set_option maxHeartbeats 4000000 in
set_option maxRecDepth 100000 in
theorem c_SJ_steps (l : Launch) (D : va_G) (cI cZ : ClassId) (tN tG : Nat) (xx pr wy : Nat) (mc ky vy gy ly sy : Nat) (res stp pcn : Int32) (fk fv fa fl fs : Nat → Int32) (hgt ap : Int32) : Met l y_SJ_steps w_SJ_steps (rmk 0) (va_Pc [.ref xx] (PZ D cI cZ tN tG [(xx, .inr (0, [.ref pr, .ref wy, .ref mc])), (mc, .inr (3, [.int res, .int stp, .int pcn, .ref ky, .ref vy, .ref gy, .ref ly, .ref sy, .int hgt, .int ap])), (ky, .inl (cI, 20, .inl fk)), (vy, .inl (cI, 20, .inl fv)), (gy, .inl (cI, 3, .inl fa)), (ly, .inl (cI, 4, .inl fl)), (sy, .inl (cI, 8, .inl fs))])) (vp_Si (fun r => r = stp)) 0 0 (fun _ => False) := by
  refine Met.ofW (cc := b_SJ_steps) (maxL := 1) (ret := (some .int)) (by decide) rfl ?_
  intro p e s m args below meth c s₁ B hml hv
  obtain ⟨rfl, hP, hE, hZ⟩ := hv
  have hx := B.exec
  have hb := B.bytes
  have hr := B.returns
  have hts : ∀ w ∈ gW, w.before _ s = true := fun w h => atoms_spec (ws := w_SJ_steps) B.pre w (List.mem_cons_of_mem _ h)
  have hown : s.vm.findClass R_SJ = some m.cls := findClass_of_methodNamed B.named
  have hlocks := B.notSynchronized
  have hS : va_S (fun _ => False) s.heap s.heap [] := va_S.rf
  have hP : va_P D classes [(xx, .inr (0, [.ref pr, .ref wy, .ref mc])), (mc, .inr (3, [.int res, .int stp, .int pcn, .ref ky, .ref vy, .ref gy, .ref ly, .ref sy, .int hgt, .int ap])), (ky, .inl (cI, 20, .inl fk)), (vy, .inl (cI, 20, .inl fv)), (gy, .inl (cI, 3, .inl fa)), (ly, .inl (cI, 4, .inl fl)), (sy, .inl (cI, 8, .inl fs))] s.heap := hP
  have hl := lv_entry ([.ref xx]) (n := 1) (Nat.le_of_ble_eq_true rfl)
  rw [lg_entry_eq]
  generalize (lg_sl ([.ref xx]) ++ List.replicate (1 - (lg_sl ([.ref xx])).length) Slot.unset).toArray = ls at hl ⊢
  have hl : lv_has ls 1 [(0, .ref xx)] := hl
  refine lv_aload_n hx hb d_SJ_steps_0 rfl (lv_at hl 0 rfl) ?_
  refine va_get (D := D) (ci := 0) (v := .ref mc) (C := R_SJ) (T := F_SJ) (N := 3) hx hb hts in_SJ hown hE.1 hP 0 rfl rfl 2 (by decide) (hts _ k_121) (fun _ h9 => h9) rfl d_SJ_steps_1 ?_
  refine va_get (D := D) (ci := 3) (v := .int stp) (C := R_Machine) (T := F_Machine) (N := 10) hx hb hts in_Machine hown hE.1 hP 1 rfl rfl 1 (by decide) (hts _ k_86) (fun _ h9 => h9) rfl d_SJ_steps_4 ?_
  refine W.iret hx hb hr (fun t ht hW => ⟨_, rfl, ?_, ht⟩) (fun q h => by cases h) d_SJ_steps_7
  show stp = stp
  rfl
set_option maxHeartbeats 4000000 in
set_option maxRecDepth 100000 in
theorem c_SJ_pairs (l : Launch) (D : va_G) (cI cZ : ClassId) (tN tG : Nat) (xx pr wy : Nat) (mc ky vy gy ly sy : Nat) (res stp pcn : Int32) (fk fv fa fl fs : Nat → Int32) (hgt ap : Int32) : Met l y_SJ_pairs w_SJ_pairs (rmk 0) (va_Pc [.ref xx] (PZ D cI cZ tN tG [(xx, .inr (0, [.ref pr, .ref wy, .ref mc])), (mc, .inr (3, [.int res, .int stp, .int pcn, .ref ky, .ref vy, .ref gy, .ref ly, .ref sy, .int hgt, .int ap])), (ky, .inl (cI, 20, .inl fk)), (vy, .inl (cI, 20, .inl fv)), (gy, .inl (cI, 3, .inl fa)), (ly, .inl (cI, 4, .inl fl)), (sy, .inl (cI, 8, .inl fs))])) (vp_Si (fun r => r = pcn)) 0 0 (fun _ => False) := by
  refine Met.ofW (cc := b_SJ_pairs) (maxL := 1) (ret := (some .int)) (by decide) rfl ?_
  intro p e s m args below meth c s₁ B hml hv
  obtain ⟨rfl, hP, hE, hZ⟩ := hv
  have hx := B.exec
  have hb := B.bytes
  have hr := B.returns
  have hts : ∀ w ∈ gW, w.before _ s = true := fun w h => atoms_spec (ws := w_SJ_pairs) B.pre w (List.mem_cons_of_mem _ h)
  have hown : s.vm.findClass R_SJ = some m.cls := findClass_of_methodNamed B.named
  have hlocks := B.notSynchronized
  have hS : va_S (fun _ => False) s.heap s.heap [] := va_S.rf
  have hP : va_P D classes [(xx, .inr (0, [.ref pr, .ref wy, .ref mc])), (mc, .inr (3, [.int res, .int stp, .int pcn, .ref ky, .ref vy, .ref gy, .ref ly, .ref sy, .int hgt, .int ap])), (ky, .inl (cI, 20, .inl fk)), (vy, .inl (cI, 20, .inl fv)), (gy, .inl (cI, 3, .inl fa)), (ly, .inl (cI, 4, .inl fl)), (sy, .inl (cI, 8, .inl fs))] s.heap := hP
  have hl := lv_entry ([.ref xx]) (n := 1) (Nat.le_of_ble_eq_true rfl)
  rw [lg_entry_eq]
  generalize (lg_sl ([.ref xx]) ++ List.replicate (1 - (lg_sl ([.ref xx])).length) Slot.unset).toArray = ls at hl ⊢
  have hl : lv_has ls 1 [(0, .ref xx)] := hl
  refine lv_aload_n hx hb d_SJ_pairs_0 rfl (lv_at hl 0 rfl) ?_
  refine va_get (D := D) (ci := 0) (v := .ref mc) (C := R_SJ) (T := F_SJ) (N := 3) hx hb hts in_SJ hown hE.1 hP 0 rfl rfl 2 (by decide) (hts _ k_121) (fun _ h9 => h9) rfl d_SJ_pairs_1 ?_
  refine va_get (D := D) (ci := 3) (v := .int pcn) (C := R_Machine) (T := F_Machine) (N := 10) hx hb hts in_Machine hown hE.1 hP 1 rfl rfl 2 (by decide) (hts _ k_88) (fun _ h9 => h9) rfl d_SJ_pairs_4 ?_
  refine W.iret hx hb hr (fun t ht hW => ⟨_, rfl, ?_, ht⟩) (fun q h => by cases h) d_SJ_pairs_7
  show pcn = pcn
  rfl
set_option maxHeartbeats 4000000 in
set_option maxRecDepth 100000 in
theorem c_SJ_pair (l : Launch) (D : va_G) (cI cZ : ClassId) (tN tG : Nat) (xx pr wy : Nat) (mc ky vy gy ly sy : Nat) (res stp pcn : Int32) (fk fv fa fl fs : Nat → Int32) (hgt ap : Int32) (k what : Int32) : Met l y_SJ_pair w_SJ_pair (rmk 1) (va_Pc [.ref xx, .int k, .int what] (PZ D cI cZ tN tG [(xx, .inr (0, [.ref pr, .ref wy, .ref mc])), (mc, .inr (3, [.int res, .int stp, .int pcn, .ref ky, .ref vy, .ref gy, .ref ly, .ref sy, .int hgt, .int ap])), (ky, .inl (cI, 20, .inl fk)), (vy, .inl (cI, 20, .inl fv)), (gy, .inl (cI, 3, .inl fa)), (ly, .inl (cI, 4, .inl fl)), (sy, .inl (cI, 8, .inl fs))])) (vp_Sl (fun r => r = j_pair pcn fk fv k what)) 0 0 (fun _ => False) := by
  refine Met.ofW (cc := b_SJ_pair) (maxL := 3) (ret := (some .long)) (by decide) rfl ?_
  intro p e s m args below meth c s₁ B hml hv
  obtain ⟨rfl, hP, hE, hZ⟩ := hv
  have hx := B.exec
  have hb := B.bytes
  have hr := B.returns
  have hts : ∀ w ∈ gW, w.before _ s = true := fun w h => atoms_spec (ws := w_SJ_pair) B.pre w (List.mem_cons_of_mem _ h)
  have hown : s.vm.findClass R_SJ = some m.cls := findClass_of_methodNamed B.named
  have hlocks := B.notSynchronized
  have hS : va_S (fun _ => False) s.heap s.heap [] := va_S.rf
  have hP : va_P D classes [(xx, .inr (0, [.ref pr, .ref wy, .ref mc])), (mc, .inr (3, [.int res, .int stp, .int pcn, .ref ky, .ref vy, .ref gy, .ref ly, .ref sy, .int hgt, .int ap])), (ky, .inl (cI, 20, .inl fk)), (vy, .inl (cI, 20, .inl fv)), (gy, .inl (cI, 3, .inl fa)), (ly, .inl (cI, 4, .inl fl)), (sy, .inl (cI, 8, .inl fs))] s.heap := hP
  have hl := lv_entry ([.ref xx, .int k, .int what]) (n := 3) (Nat.le_of_ble_eq_true rfl)
  rw [lg_entry_eq]
  generalize (lg_sl ([.ref xx, .int k, .int what]) ++ List.replicate (3 - (lg_sl ([.ref xx, .int k, .int what])).length) Slot.unset).toArray = ls at hl ⊢
  have hl : lv_has ls 3 [(0, .ref xx), (1, .int k), (2, .int what)] := hl
  refine lv_iload_n hx hb d_SJ_pair_0 rfl (lv_at hl 1 rfl) ?_
  refine lv_if_lt (tgt := 15) hx hb d_SJ_pair_1 (by decide) (fun h1 => ?_) (fun h1 => ?_)
  · -- k < 0
    refine lv_ldc2 (v := 1099511627776) hx hb hown (hts _ k_306) d_SJ_pair_15 ?_
    refine W.lret hx hb hr (fun t ht hW => ⟨_, rfl, ?_, ht⟩) (fun q h => by cases h) d_SJ_pair_18
    show 1099511627776 = j_pair pcn fk fv k what
    first | (simp only [j_pair, h1, if_true, if_false, eq_self, not_true_eq_false, not_false_eq_true, ne_eq]; done) | (simp only [j_pair, h1, if_true, if_false, eq_self, not_true_eq_false, not_false_eq_true, ne_eq]; rfl)
  · -- ¬ k < 0
    refine lv_iload_n hx hb d_SJ_pair_4 rfl (lv_at hl 1 rfl) ?_
    refine lv_aload_n hx hb d_SJ_pair_5 rfl (lv_at hl 0 rfl) ?_
    refine va_get (D := D) (ci := 0) (v := .ref mc) (C := R_SJ) (T := F_SJ) (N := 3) hx hb hts in_SJ hown hE.1 hP 0 rfl rfl 2 (by decide) (hts _ k_121) (fun _ h9 => h9) rfl d_SJ_pair_6 ?_
    refine va_get (D := D) (ci := 3) (v := .int pcn) (C := R_Machine) (T := F_Machine) (N := 10) hx hb hts in_Machine hown hE.1 hP 1 rfl rfl 2 (by decide) (hts _ k_88) (fun _ h9 => h9) rfl d_SJ_pair_9 ?_
    refine lv_icmp_lt (tgt := 19) hx hb d_SJ_pair_12 (by decide) (fun h2 => ?_) (fun h2 => ?_)
    · -- k < pcn
      refine lv_iload_n hx hb d_SJ_pair_19 rfl (lv_at hl 2 rfl) ?_
      by_cases h4 : what = 0
      · -- case 0
        subst h4
        refine lv_lookup (tgt := 48) hx hb d_SJ_pair_20 (by decide) (by decide +kernel : _ = (28 : Int)) (by decide) ?_
        refine lv_aload_n hx hb d_SJ_pair_48 rfl (lv_at hl 0 rfl) ?_
        refine va_get (D := D) (ci := 0) (v := .ref mc) (C := R_SJ) (T := F_SJ) (N := 3) hx hb hts in_SJ hown hE.1 hP 0 rfl rfl 2 (by decide) (hts _ k_121) (fun _ h9 => h9) rfl d_SJ_pair_49 ?_
        refine va_get (D := D) (ci := 3) (v := .ref ky) (C := R_Machine) (T := F_Machine) (N := 10) hx hb hts in_Machine hown hE.1 hP 1 rfl rfl 3 (by decide) (hts _ k_90) (fun _ h9 => h9) rfl d_SJ_pair_52 ?_
        refine lv_iload_n hx hb d_SJ_pair_55 rfl (lv_at hl 1 rfl) ?_
        refine vp_callSi (va_Run.run (va_runS (As := [.ref ky, .int k]) (rest := []) ⟨hx, hb, hml, hown, hts⟩ (c_SJ_read l ky 20 fk k (by decide)) (cwS 2 hts (gd3 k_248 k_176 k_18 k_177) rfl rfl rfl (by decide +kernel) ⟨Nat.le_of_ble_eq_true rfl, Nat.le_of_ble_eq_true rfl⟩) (rp_pre hE.1 hP 2 0 rfl rfl) rfl rfl hl.1 rfl (lv_room (Nat.le_of_ble_eq_true rfl)) d_SJ_pair_56 ⟨Nat.zero_le _, Nat.zero_le _⟩)) (fun r hq => ?_)
        subst hq
        refine lv_i2l (v := ((rd fk 20 k)).toInt64) hx hb d_SJ_pair_59 rfl ?_
        refine W.lret hx hb hr (fun t ht hW => ⟨_, rfl, ?_, ht⟩) (fun q h => by cases h) d_SJ_pair_60
        show (((rd fk 20 k)).toInt64) = j_pair pcn fk fv k 0
        first | (simp only [j_pair, h1, h2, if_true, if_false, eq_self, not_true_eq_false, not_false_eq_true, ne_eq]; done) | (simp only [j_pair, h1, h2, if_true, if_false, eq_self, not_true_eq_false, not_false_eq_true, ne_eq]; rfl)
      by_cases h5 : what = 1
      · -- case 1
        subst h5
        refine lv_lookup (tgt := 61) hx hb d_SJ_pair_20 (by decide) (by decide +kernel : _ = (41 : Int)) (by decide) ?_
        refine lv_aload_n hx hb d_SJ_pair_61 rfl (lv_at hl 0 rfl) ?_
        refine va_get (D := D) (ci := 0) (v := .ref mc) (C := R_SJ) (T := F_SJ) (N := 3) hx hb hts in_SJ hown hE.1 hP 0 rfl rfl 2 (by decide) (hts _ k_121) (fun _ h9 => h9) rfl d_SJ_pair_62 ?_
        refine va_get (D := D) (ci := 3) (v := .ref vy) (C := R_Machine) (T := F_Machine) (N := 10) hx hb hts in_Machine hown hE.1 hP 1 rfl rfl 4 (by decide) (hts _ k_92) (fun _ h9 => h9) rfl d_SJ_pair_65 ?_
        refine lv_iload_n hx hb d_SJ_pair_68 rfl (lv_at hl 1 rfl) ?_
        refine vp_callSi (va_Run.run (va_runS (As := [.ref vy, .int k]) (rest := []) ⟨hx, hb, hml, hown, hts⟩ (c_SJ_read l vy 20 fv k (by decide)) (cwS 2 hts (gd3 k_248 k_176 k_18 k_177) rfl rfl rfl (by decide +kernel) ⟨Nat.le_of_ble_eq_true rfl, Nat.le_of_ble_eq_true rfl⟩) (rp_pre hE.1 hP 3 0 rfl rfl) rfl rfl hl.1 rfl (lv_room (Nat.le_of_ble_eq_true rfl)) d_SJ_pair_69 ⟨Nat.zero_le _, Nat.zero_le _⟩)) (fun r hq => ?_)
        subst hq
        refine lv_i2l (v := ((rd fv 20 k)).toInt64) hx hb d_SJ_pair_72 rfl ?_
        refine W.lret hx hb hr (fun t ht hW => ⟨_, rfl, ?_, ht⟩) (fun q h => by cases h) d_SJ_pair_73
        show (((rd fv 20 k)).toInt64) = j_pair pcn fk fv k 1
        first | (simp only [j_pair, h1, h2, h4, if_true, if_false, eq_self, not_true_eq_false, not_false_eq_true, ne_eq]; done) | (simp only [j_pair, h1, h2, h4, if_true, if_false, eq_self, not_true_eq_false, not_false_eq_true, ne_eq]; rfl)
      refine lv_lookup (tgt := 74) (off := 54) hx hb d_SJ_pair_20 (by decide) (by show Op.lookupswitch.offset [(0, 28), (1, 41)] 54 (Int32.toInt what) = 54; rw [lv_osw h4 (by decide), lv_osw h5 (by decide)]; rfl) (by decide) ?_
      refine lv_ldc2 (v := 1099511627776) hx hb hown (hts _ k_306) d_SJ_pair_74 ?_
      refine W.lret hx hb hr (fun t ht hW => ⟨_, rfl, ?_, ht⟩) (fun q h => by cases h) d_SJ_pair_77
      show 1099511627776 = j_pair pcn fk fv k what
      first | (simp only [j_pair, h1, h2, h4, h5, if_true, if_false, eq_self, not_true_eq_false, not_false_eq_true, ne_eq]; done) | (simp only [j_pair, h1, h2, h4, h5, if_true, if_false, eq_self, not_true_eq_false, not_false_eq_true, ne_eq]; rfl)
    · -- ¬ k < pcn
      refine lv_ldc2 (v := 1099511627776) hx hb hown (hts _ k_306) d_SJ_pair_15 ?_
      refine W.lret hx hb hr (fun t ht hW => ⟨_, rfl, ?_, ht⟩) (fun q h => by cases h) d_SJ_pair_18
      show 1099511627776 = j_pair pcn fk fv k what
      first | (simp only [j_pair, h1, h2, if_true, if_false, eq_self, not_true_eq_false, not_false_eq_true, ne_eq]; done) | (simp only [j_pair, h1, h2, if_true, if_false, eq_self, not_true_eq_false, not_false_eq_true, ne_eq]; rfl)
end
section
theorem d_Model_init_0 : decode b_Model_init 0 = .ok (.aload_n 0, 1) := by decide +kernel
theorem d_Model_init_1 : decode b_Model_init 1 = .ok (.invokespecial 1, 3) := by decide +kernel
theorem d_Model_init_4 : decode b_Model_init 4 = .ok (.aload_n 0, 1) := by decide +kernel
theorem d_Model_init_5 : decode b_Model_init 5 = .ok (.bipush 64, 2) := by decide +kernel
theorem d_Model_init_7 : decode b_Model_init 7 = .ok (.newarray .int, 2) := by decide +kernel
theorem d_Model_init_9 : decode b_Model_init 9 = .ok (.putfield 9, 3) := by decide +kernel
theorem d_Model_init_12 : decode b_Model_init 12 = .ok (.aload_n 0, 1) := by decide +kernel
theorem d_Model_init_13 : decode b_Model_init 13 = .ok (.bipush 64, 2) := by decide +kernel
theorem d_Model_init_15 : decode b_Model_init 15 = .ok (.newarray .int, 2) := by decide +kernel
theorem d_Model_init_17 : decode b_Model_init 17 = .ok (.putfield 13, 3) := by decide +kernel
theorem d_Model_init_20 : decode b_Model_init 20 = .ok (.aload_n 0, 1) := by decide +kernel
theorem d_Model_init_21 : decode b_Model_init 21 = .ok (.sipush 576, 3) := by decide +kernel
theorem d_Model_init_24 : decode b_Model_init 24 = .ok (.newarray .int, 2) := by decide +kernel
theorem d_Model_init_26 : decode b_Model_init 26 = .ok (.putfield 16, 3) := by decide +kernel
theorem d_Model_init_29 : decode b_Model_init 29 = .ok (.aload_n 0, 1) := by decide +kernel
theorem d_Model_init_30 : decode b_Model_init 30 = .ok (.bipush 64, 2) := by decide +kernel
theorem d_Model_init_32 : decode b_Model_init 32 = .ok (.newarray .boolean, 2) := by decide +kernel
theorem d_Model_init_34 : decode b_Model_init 34 = .ok (.putfield 19, 3) := by decide +kernel
theorem d_Model_init_37 : decode b_Model_init 37 = .ok (.aload_n 0, 1) := by decide +kernel
theorem d_Model_init_38 : decode b_Model_init 38 = .ok (.bipush 8, 2) := by decide +kernel
theorem d_Model_init_40 : decode b_Model_init 40 = .ok (.newarray .int, 2) := by decide +kernel
theorem d_Model_init_42 : decode b_Model_init 42 = .ok (.putfield 23, 3) := by decide +kernel
theorem d_Model_init_45 : decode b_Model_init 45 = .ok (.aload_n 0, 1) := by decide +kernel
theorem d_Model_init_46 : decode b_Model_init 46 = .ok (.iconst 4, 1) := by decide +kernel
theorem d_Model_init_47 : decode b_Model_init 47 = .ok (.newarray .int, 2) := by decide +kernel
theorem d_Model_init_49 : decode b_Model_init 49 = .ok (.putfield 26, 3) := by decide +kernel
theorem d_Model_init_52 : decode b_Model_init 52 = .ok (.aload_n 0, 1) := by decide +kernel
theorem d_Model_init_53 : decode b_Model_init 53 = .ok (.bipush 20, 2) := by decide +kernel
theorem d_Model_init_55 : decode b_Model_init 55 = .ok (.newarray .int, 2) := by decide +kernel
theorem d_Model_init_57 : decode b_Model_init 57 = .ok (.putfield 29, 3) := by decide +kernel
theorem d_Model_init_60 : decode b_Model_init 60 = .ok (.aload_n 0, 1) := by decide +kernel
theorem d_Model_init_61 : decode b_Model_init 61 = .ok (.bipush 20, 2) := by decide +kernel
theorem d_Model_init_63 : decode b_Model_init 63 = .ok (.newarray .int, 2) := by decide +kernel
theorem d_Model_init_65 : decode b_Model_init 65 = .ok (.putfield 32, 3) := by decide +kernel
theorem d_Model_init_68 : decode b_Model_init 68 = .ok (.aload_n 0, 1) := by decide +kernel
theorem d_Model_init_69 : decode b_Model_init 69 = .ok (.iload_n 1, 1) := by decide +kernel
theorem d_Model_init_70 : decode b_Model_init 70 = .ok (.iconst 3, 1) := by decide +kernel
theorem d_Model_init_71 : decode b_Model_init 71 = .ok (.iand, 1) := by decide +kernel
theorem d_Model_init_72 : decode b_Model_init 72 = .ok (.putfield 35, 3) := by decide +kernel
theorem d_Model_init_75 : decode b_Model_init 75 = .ok (.return_, 1) := by decide +kernel
theorem d_Model_code_0 : decode b_Model_code 0 = .ok (.aload_n 0, 1) := by decide +kernel
theorem d_Model_code_1 : decode b_Model_code 1 = .ok (.getfield 39, 3) := by decide +kernel
theorem d_Model_code_4 : decode b_Model_code 4 = .ok (.bipush 64, 2) := by decide +kernel
theorem d_Model_code_6 : decode b_Model_code 6 = .ok (.if_icmp .ne 6, 3) := by decide +kernel
theorem d_Model_code_9 : decode b_Model_code 9 = .ok (.bipush (-3), 2) := by decide +kernel
theorem d_Model_code_11 : decode b_Model_code 11 = .ok (.ireturn, 1) := by decide +kernel
theorem d_Model_code_12 : decode b_Model_code 12 = .ok (.aload_n 0, 1) := by decide +kernel
theorem d_Model_code_13 : decode b_Model_code 13 = .ok (.getfield 9, 3) := by decide +kernel
theorem d_Model_code_16 : decode b_Model_code 16 = .ok (.aload_n 0, 1) := by decide +kernel
theorem d_Model_code_17 : decode b_Model_code 17 = .ok (.getfield 39, 3) := by decide +kernel
theorem d_Model_code_20 : decode b_Model_code 20 = .ok (.iload_n 1, 1) := by decide +kernel
theorem d_Model_code_21 : decode b_Model_code 21 = .ok (.iastore, 1) := by decide +kernel
theorem d_Model_code_22 : decode b_Model_code 22 = .ok (.aload_n 0, 1) := by decide +kernel
theorem d_Model_code_23 : decode b_Model_code 23 = .ok (.getfield 13, 3) := by decide +kernel
theorem d_Model_code_26 : decode b_Model_code 26 = .ok (.aload_n 0, 1) := by decide +kernel
theorem d_Model_code_27 : decode b_Model_code 27 = .ok (.getfield 39, 3) := by decide +kernel
theorem d_Model_code_30 : decode b_Model_code 30 = .ok (.iload_n 2, 1) := by decide +kernel
theorem d_Model_code_31 : decode b_Model_code 31 = .ok (.iastore, 1) := by decide +kernel
theorem d_Model_code_32 : decode b_Model_code 32 = .ok (.aload_n 0, 1) := by decide +kernel
theorem d_Model_code_33 : decode b_Model_code 33 = .ok (.dup, 1) := by decide +kernel
theorem d_Model_code_34 : decode b_Model_code 34 = .ok (.getfield 39, 3) := by decide +kernel
theorem d_Model_code_37 : decode b_Model_code 37 = .ok (.iconst 1, 1) := by decide +kernel
theorem d_Model_code_38 : decode b_Model_code 38 = .ok (.iadd, 1) := by decide +kernel
theorem d_Model_code_39 : decode b_Model_code 39 = .ok (.putfield 39, 3) := by decide +kernel
theorem d_Model_code_42 : decode b_Model_code 42 = .ok (.aload_n 0, 1) := by decide +kernel
theorem d_Model_code_43 : decode b_Model_code 43 = .ok (.getfield 39, 3) := by decide +kernel
theorem d_Model_code_46 : decode b_Model_code 46 = .ok (.iconst 1, 1) := by decide +kernel
theorem d_Model_code_47 : decode b_Model_code 47 = .ok (.isub, 1) := by decide +kernel
theorem d_Model_code_48 : decode b_Model_code 48 = .ok (.ireturn, 1) := by decide +kernel
theorem d_Model_clear_0 : decode b_Model_clear 0 = .ok (.aload_n 0, 1) := by decide +kernel
theorem d_Model_clear_1 : decode b_Model_clear 1 = .ok (.getfield 39, 3) := by decide +kernel
theorem d_Model_clear_4 : decode b_Model_clear 4 = .ok (.istore_n 1, 1) := by decide +kernel
theorem d_Model_clear_5 : decode b_Model_clear 5 = .ok (.aload_n 0, 1) := by decide +kernel
theorem d_Model_clear_6 : decode b_Model_clear 6 = .ok (.iconst 0, 1) := by decide +kernel
theorem d_Model_clear_7 : decode b_Model_clear 7 = .ok (.putfield 39, 3) := by decide +kernel
theorem d_Model_clear_10 : decode b_Model_clear 10 = .ok (.iload_n 1, 1) := by decide +kernel
theorem d_Model_clear_11 : decode b_Model_clear 11 = .ok (.ireturn, 1) := by decide +kernel
theorem d_Model_drop_0 : decode b_Model_drop 0 = .ok (.aload_n 0, 1) := by decide +kernel
theorem d_Model_drop_1 : decode b_Model_drop 1 = .ok (.getfield 39, 3) := by decide +kernel
theorem d_Model_drop_4 : decode b_Model_drop 4 = .ok (.ifCond .ne 6, 3) := by decide +kernel
theorem d_Model_drop_7 : decode b_Model_drop 7 = .ok (.bipush (-2), 2) := by decide +kernel
theorem d_Model_drop_9 : decode b_Model_drop 9 = .ok (.ireturn, 1) := by decide +kernel
theorem d_Model_drop_10 : decode b_Model_drop 10 = .ok (.aload_n 0, 1) := by decide +kernel
theorem d_Model_drop_11 : decode b_Model_drop 11 = .ok (.dup, 1) := by decide +kernel
theorem d_Model_drop_12 : decode b_Model_drop 12 = .ok (.getfield 39, 3) := by decide +kernel
theorem d_Model_drop_15 : decode b_Model_drop 15 = .ok (.iconst 1, 1) := by decide +kernel
theorem d_Model_drop_16 : decode b_Model_drop 16 = .ok (.isub, 1) := by decide +kernel
theorem d_Model_drop_17 : decode b_Model_drop 17 = .ok (.putfield 39, 3) := by decide +kernel
theorem d_Model_drop_20 : decode b_Model_drop 20 = .ok (.aload_n 0, 1) := by decide +kernel
theorem d_Model_drop_21 : decode b_Model_drop 21 = .ok (.getfield 39, 3) := by decide +kernel
theorem d_Model_drop_24 : decode b_Model_drop 24 = .ok (.ireturn, 1) := by decide +kernel
theorem d_Model_isBad_0 : decode b_Model_isBad 0 = .ok (.aload_n 0, 1) := by decide +kernel
theorem d_Model_isBad_1 : decode b_Model_isBad 1 = .ok (.getfield 9, 3) := by decide +kernel
theorem d_Model_isBad_4 : decode b_Model_isBad 4 = .ok (.iload_n 1, 1) := by decide +kernel
theorem d_Model_isBad_5 : decode b_Model_isBad 5 = .ok (.iaload, 1) := by decide +kernel
theorem d_Model_isBad_6 : decode b_Model_isBad 6 = .ok (.istore_n 2, 1) := by decide +kernel
theorem d_Model_isBad_7 : decode b_Model_isBad 7 = .ok (.aload_n 0, 1) := by decide +kernel
theorem d_Model_isBad_8 : decode b_Model_isBad 8 = .ok (.getfield 13, 3) := by decide +kernel
theorem d_Model_isBad_11 : decode b_Model_isBad 11 = .ok (.iload_n 1, 1) := by decide +kernel
theorem d_Model_isBad_12 : decode b_Model_isBad 12 = .ok (.iaload, 1) := by decide +kernel
theorem d_Model_isBad_13 : decode b_Model_isBad 13 = .ok (.istore_n 3, 1) := by decide +kernel
theorem d_Model_isBad_14 : decode b_Model_isBad 14 = .ok (.iload_n 2, 1) := by decide +kernel
theorem d_Model_isBad_15 : decode b_Model_isBad 15 = .ok (.ifCond .lt 36, 3) := by decide +kernel
theorem d_Model_isBad_18 : decode b_Model_isBad 18 = .ok (.iload_n 2, 1) := by decide +kernel
theorem d_Model_isBad_19 : decode b_Model_isBad 19 = .ok (.bipush 18, 2) := by decide +kernel
theorem d_Model_isBad_21 : decode b_Model_isBad 21 = .ok (.if_icmp .gt 30, 3) := by decide +kernel
theorem d_Model_isBad_24 : decode b_Model_isBad 24 = .ok (.iload_n 2, 1) := by decide +kernel
theorem d_Model_isBad_25 : decode b_Model_isBad 25 = .ok (.bipush 16, 2) := by decide +kernel
theorem d_Model_isBad_27 : decode b_Model_isBad 27 = .ok (.if_icmp .ne 10, 3) := by decide +kernel
theorem d_Model_isBad_30 : decode b_Model_isBad 30 = .ok (.aload_n 0, 1) := by decide +kernel
theorem d_Model_isBad_31 : decode b_Model_isBad 31 = .ok (.getfield 35, 3) := by decide +kernel
theorem d_Model_isBad_34 : decode b_Model_isBad 34 = .ok (.ifCond .ne 17, 3) := by decide +kernel
theorem d_Model_isBad_37 : decode b_Model_isBad 37 = .ok (.iload_n 2, 1) := by decide +kernel
theorem d_Model_isBad_38 : decode b_Model_isBad 38 = .ok (.bipush 18, 2) := by decide +kernel
theorem d_Model_isBad_40 : decode b_Model_isBad 40 = .ok (.if_icmp .ne 13, 3) := by decide +kernel
theorem d_Model_isBad_43 : decode b_Model_isBad 43 = .ok (.aload_n 0, 1) := by decide +kernel
theorem d_Model_isBad_44 : decode b_Model_isBad 44 = .ok (.getfield 35, 3) := by decide +kernel
theorem d_Model_isBad_47 : decode b_Model_isBad 47 = .ok (.iconst 3, 1) := by decide +kernel
theorem d_Model_isBad_48 : decode b_Model_isBad 48 = .ok (.if_icmp .eq 5, 3) := by decide +kernel
theorem d_Model_isBad_51 : decode b_Model_isBad 51 = .ok (.iconst 1, 1) := by decide +kernel
theorem d_Model_isBad_52 : decode b_Model_isBad 52 = .ok (.ireturn, 1) := by decide +kernel
theorem d_Model_isBad_53 : decode b_Model_isBad 53 = .ok (.iload_n 2, 1) := by decide +kernel
theorem d_Model_isBad_54 : decode b_Model_isBad 54 = .ok (.iconst 1, 1) := by decide +kernel
theorem d_Model_isBad_55 : decode b_Model_isBad 55 = .ok (.if_icmp .ne 38, 3) := by decide +kernel
theorem d_Model_isBad_58 : decode b_Model_isBad 58 = .ok (.iload_n 3, 1) := by decide +kernel
theorem d_Model_isBad_59 : decode b_Model_isBad 59 = .ok (.ifCond .lt 28, 3) := by decide +kernel
theorem d_Model_isBad_62 : decode b_Model_isBad 62 = .ok (.iload_n 3, 1) := by decide +kernel
theorem d_Model_isBad_63 : decode b_Model_isBad 63 = .ok (.iconst 2, 1) := by decide +kernel
theorem d_Model_isBad_64 : decode b_Model_isBad 64 = .ok (.if_icmp .gt 23, 3) := by decide +kernel
theorem d_Model_isBad_67 : decode b_Model_isBad 67 = .ok (.iload_n 3, 1) := by decide +kernel
theorem d_Model_isBad_68 : decode b_Model_isBad 68 = .ok (.iconst 2, 1) := by decide +kernel
theorem d_Model_isBad_69 : decode b_Model_isBad 69 = .ok (.if_icmp .ne 22, 3) := by decide +kernel
theorem d_Model_isBad_72 : decode b_Model_isBad 72 = .ok (.aload_n 0, 1) := by decide +kernel
theorem d_Model_isBad_73 : decode b_Model_isBad 73 = .ok (.getfield 35, 3) := by decide +kernel
theorem d_Model_isBad_76 : decode b_Model_isBad 76 = .ok (.ifCond .eq 11, 3) := by decide +kernel
theorem d_Model_isBad_79 : decode b_Model_isBad 79 = .ok (.aload_n 0, 1) := by decide +kernel
theorem d_Model_isBad_80 : decode b_Model_isBad 80 = .ok (.getfield 35, 3) := by decide +kernel
theorem d_Model_isBad_83 : decode b_Model_isBad 83 = .ok (.iconst 3, 1) := by decide +kernel
theorem d_Model_isBad_84 : decode b_Model_isBad 84 = .ok (.if_icmp .ne 7, 3) := by decide +kernel
theorem d_Model_isBad_87 : decode b_Model_isBad 87 = .ok (.iconst 1, 1) := by decide +kernel
theorem d_Model_isBad_88 : decode b_Model_isBad 88 = .ok (.goto 4, 3) := by decide +kernel
theorem d_Model_isBad_91 : decode b_Model_isBad 91 = .ok (.iconst 0, 1) := by decide +kernel
theorem d_Model_isBad_92 : decode b_Model_isBad 92 = .ok (.ireturn, 1) := by decide +kernel
theorem d_Model_isBad_93 : decode b_Model_isBad 93 = .ok (.iload_n 2, 1) := by decide +kernel
theorem d_Model_isBad_94 : decode b_Model_isBad 94 = .ok (.iconst 2, 1) := by decide +kernel
theorem d_Model_isBad_95 : decode b_Model_isBad 95 = .ok (.if_icmp .eq 8, 3) := by decide +kernel
theorem d_Model_isBad_98 : decode b_Model_isBad 98 = .ok (.iload_n 2, 1) := by decide +kernel
theorem d_Model_isBad_99 : decode b_Model_isBad 99 = .ok (.iconst 3, 1) := by decide +kernel
theorem d_Model_isBad_100 : decode b_Model_isBad 100 = .ok (.if_icmp .ne 18, 3) := by decide +kernel
theorem d_Model_isBad_103 : decode b_Model_isBad 103 = .ok (.iload_n 3, 1) := by decide +kernel
theorem d_Model_isBad_104 : decode b_Model_isBad 104 = .ok (.ifCond .lt 8, 3) := by decide +kernel
theorem d_Model_isBad_107 : decode b_Model_isBad 107 = .ok (.iload_n 3, 1) := by decide +kernel
theorem d_Model_isBad_108 : decode b_Model_isBad 108 = .ok (.iconst 3, 1) := by decide +kernel
theorem d_Model_isBad_109 : decode b_Model_isBad 109 = .ok (.if_icmp .le 7, 3) := by decide +kernel
theorem d_Model_isBad_112 : decode b_Model_isBad 112 = .ok (.iconst 1, 1) := by decide +kernel
theorem d_Model_isBad_113 : decode b_Model_isBad 113 = .ok (.goto 4, 3) := by decide +kernel
theorem d_Model_isBad_116 : decode b_Model_isBad 116 = .ok (.iconst 0, 1) := by decide +kernel
theorem d_Model_isBad_117 : decode b_Model_isBad 117 = .ok (.ireturn, 1) := by decide +kernel
theorem d_Model_isBad_118 : decode b_Model_isBad 118 = .ok (.iload_n 2, 1) := by decide +kernel
theorem d_Model_isBad_119 : decode b_Model_isBad 119 = .ok (.bipush 14, 2) := by decide +kernel
theorem d_Model_isBad_121 : decode b_Model_isBad 121 = .ok (.if_icmp .eq 9, 3) := by decide +kernel
theorem d_Model_isBad_124 : decode b_Model_isBad 124 = .ok (.iload_n 2, 1) := by decide +kernel
theorem d_Model_isBad_125 : decode b_Model_isBad 125 = .ok (.bipush 15, 2) := by decide +kernel
theorem d_Model_isBad_127 : decode b_Model_isBad 127 = .ok (.if_icmp .ne 19, 3) := by decide +kernel
theorem d_Model_isBad_130 : decode b_Model_isBad 130 = .ok (.iload_n 3, 1) := by decide +kernel
theorem d_Model_isBad_131 : decode b_Model_isBad 131 = .ok (.ifCond .lt 11, 3) := by decide +kernel
theorem d_Model_isBad_134 : decode b_Model_isBad 134 = .ok (.iload_n 3, 1) := by decide +kernel
theorem d_Model_isBad_135 : decode b_Model_isBad 135 = .ok (.aload_n 0, 1) := by decide +kernel
theorem d_Model_isBad_136 : decode b_Model_isBad 136 = .ok (.getfield 39, 3) := by decide +kernel
theorem d_Model_isBad_139 : decode b_Model_isBad 139 = .ok (.if_icmp .lt 7, 3) := by decide +kernel
theorem d_Model_isBad_142 : decode b_Model_isBad 142 = .ok (.iconst 1, 1) := by decide +kernel
theorem d_Model_isBad_143 : decode b_Model_isBad 143 = .ok (.goto 4, 3) := by decide +kernel
theorem d_Model_isBad_146 : decode b_Model_isBad 146 = .ok (.iconst 0, 1) := by decide +kernel
theorem d_Model_isBad_147 : decode b_Model_isBad 147 = .ok (.ireturn, 1) := by decide +kernel
theorem d_Model_needs_0 : decode b_Model_needs 0 = .ok (.iload_n 1, 1) := by decide +kernel
theorem d_Model_needs_1 : decode b_Model_needs 1 = .ok (.iconst 5, 1) := by decide +kernel
theorem d_Model_needs_2 : decode b_Model_needs 2 = .ok (.if_icmp .eq 21, 3) := by decide +kernel
theorem d_Model_needs_5 : decode b_Model_needs 5 = .ok (.iload_n 1, 1) := by decide +kernel
theorem d_Model_needs_6 : decode b_Model_needs 6 = .ok (.bipush 7, 2) := by decide +kernel
theorem d_Model_needs_8 : decode b_Model_needs 8 = .ok (.if_icmp .lt 9, 3) := by decide +kernel
theorem d_Model_needs_11 : decode b_Model_needs 11 = .ok (.iload_n 1, 1) := by decide +kernel
theorem d_Model_needs_12 : decode b_Model_needs 12 = .ok (.bipush 13, 2) := by decide +kernel
theorem d_Model_needs_14 : decode b_Model_needs 14 = .ok (.if_icmp .le 9, 3) := by decide +kernel
theorem d_Model_needs_17 : decode b_Model_needs 17 = .ok (.iload_n 1, 1) := by decide +kernel
theorem d_Model_needs_18 : decode b_Model_needs 18 = .ok (.bipush 16, 2) := by decide +kernel
theorem d_Model_needs_20 : decode b_Model_needs 20 = .ok (.if_icmp .ne 5, 3) := by decide +kernel
theorem d_Model_needs_23 : decode b_Model_needs 23 = .ok (.iconst 2, 1) := by decide +kernel
theorem d_Model_needs_24 : decode b_Model_needs 24 = .ok (.ireturn, 1) := by decide +kernel
theorem d_Model_needs_25 : decode b_Model_needs 25 = .ok (.iload_n 1, 1) := by decide +kernel
theorem d_Model_needs_26 : decode b_Model_needs 26 = .ok (.iconst 3, 1) := by decide +kernel
theorem d_Model_needs_27 : decode b_Model_needs 27 = .ok (.if_icmp .eq 20, 3) := by decide +kernel
theorem d_Model_needs_30 : decode b_Model_needs 30 = .ok (.iload_n 1, 1) := by decide +kernel
theorem d_Model_needs_31 : decode b_Model_needs 31 = .ok (.iconst 4, 1) := by decide +kernel
theorem d_Model_needs_32 : decode b_Model_needs 32 = .ok (.if_icmp .eq 15, 3) := by decide +kernel
theorem d_Model_needs_35 : decode b_Model_needs 35 = .ok (.iload_n 1, 1) := by decide +kernel
theorem d_Model_needs_36 : decode b_Model_needs 36 = .ok (.bipush 6, 2) := by decide +kernel
theorem d_Model_needs_38 : decode b_Model_needs 38 = .ok (.if_icmp .eq 9, 3) := by decide +kernel
theorem d_Model_needs_41 : decode b_Model_needs 41 = .ok (.iload_n 1, 1) := by decide +kernel
theorem d_Model_needs_42 : decode b_Model_needs 42 = .ok (.bipush 15, 2) := by decide +kernel
theorem d_Model_needs_44 : decode b_Model_needs 44 = .ok (.if_icmp .ne 5, 3) := by decide +kernel
theorem d_Model_needs_47 : decode b_Model_needs 47 = .ok (.iconst 1, 1) := by decide +kernel
theorem d_Model_needs_48 : decode b_Model_needs 48 = .ok (.ireturn, 1) := by decide +kernel
theorem d_Model_needs_49 : decode b_Model_needs 49 = .ok (.iload_n 1, 1) := by decide +kernel
theorem d_Model_needs_50 : decode b_Model_needs 50 = .ok (.bipush 17, 2) := by decide +kernel
theorem d_Model_needs_52 : decode b_Model_needs 52 = .ok (.if_icmp .ne 14, 3) := by decide +kernel
theorem d_Model_needs_55 : decode b_Model_needs 55 = .ok (.aload_n 0, 1) := by decide +kernel
theorem d_Model_needs_56 : decode b_Model_needs 56 = .ok (.getfield 35, 3) := by decide +kernel
theorem d_Model_needs_59 : decode b_Model_needs 59 = .ok (.ifCond .eq 7, 3) := by decide +kernel
theorem d_Model_needs_62 : decode b_Model_needs 62 = .ok (.iconst 1, 1) := by decide +kernel
theorem d_Model_needs_63 : decode b_Model_needs 63 = .ok (.goto 4, 3) := by decide +kernel
theorem d_Model_needs_66 : decode b_Model_needs 66 = .ok (.iconst 0, 1) := by decide +kernel
theorem d_Model_needs_67 : decode b_Model_needs 67 = .ok (.ireturn, 1) := by decide +kernel
theorem d_Model_grows_0 : decode b_Model_grows 0 = .ok (.iload_n 0, 1) := by decide +kernel
theorem d_Model_grows_1 : decode b_Model_grows 1 = .ok (.iconst 2, 1) := by decide +kernel
theorem d_Model_grows_2 : decode b_Model_grows 2 = .ok (.if_icmp .le 8, 3) := by decide +kernel
theorem d_Model_grows_5 : decode b_Model_grows 5 = .ok (.iload_n 0, 1) := by decide +kernel
theorem d_Model_grows_6 : decode b_Model_grows 6 = .ok (.iconst 4, 1) := by decide +kernel
theorem d_Model_grows_7 : decode b_Model_grows 7 = .ok (.if_icmp .ne 5, 3) := by decide +kernel
theorem d_Model_grows_10 : decode b_Model_grows 10 = .ok (.iconst 1, 1) := by decide +kernel
theorem d_Model_grows_11 : decode b_Model_grows 11 = .ok (.ireturn, 1) := by decide +kernel
theorem d_Model_grows_12 : decode b_Model_grows 12 = .ok (.iload_n 0, 1) := by decide +kernel
theorem d_Model_grows_13 : decode b_Model_grows 13 = .ok (.iconst 3, 1) := by decide +kernel
theorem d_Model_grows_14 : decode b_Model_grows 14 = .ok (.if_icmp .eq 27, 3) := by decide +kernel
theorem d_Model_grows_17 : decode b_Model_grows 17 = .ok (.iload_n 0, 1) := by decide +kernel
theorem d_Model_grows_18 : decode b_Model_grows 18 = .ok (.bipush 6, 2) := by decide +kernel
theorem d_Model_grows_20 : decode b_Model_grows 20 = .ok (.if_icmp .eq 21, 3) := by decide +kernel
theorem d_Model_grows_23 : decode b_Model_grows 23 = .ok (.iload_n 0, 1) := by decide +kernel
theorem d_Model_grows_24 : decode b_Model_grows 24 = .ok (.bipush 7, 2) := by decide +kernel
theorem d_Model_grows_26 : decode b_Model_grows 26 = .ok (.if_icmp .lt 9, 3) := by decide +kernel
theorem d_Model_grows_29 : decode b_Model_grows 29 = .ok (.iload_n 0, 1) := by decide +kernel
theorem d_Model_grows_30 : decode b_Model_grows 30 = .ok (.bipush 13, 2) := by decide +kernel
theorem d_Model_grows_32 : decode b_Model_grows 32 = .ok (.if_icmp .le 9, 3) := by decide +kernel
theorem d_Model_grows_35 : decode b_Model_grows 35 = .ok (.iload_n 0, 1) := by decide +kernel
theorem d_Model_grows_36 : decode b_Model_grows 36 = .ok (.bipush 15, 2) := by decide +kernel
theorem d_Model_grows_38 : decode b_Model_grows 38 = .ok (.if_icmp .ne 5, 3) := by decide +kernel
theorem d_Model_grows_41 : decode b_Model_grows 41 = .ok (.iconst (-1), 1) := by decide +kernel
theorem d_Model_grows_42 : decode b_Model_grows 42 = .ok (.ireturn, 1) := by decide +kernel
theorem d_Model_grows_43 : decode b_Model_grows 43 = .ok (.iload_n 0, 1) := by decide +kernel
theorem d_Model_grows_44 : decode b_Model_grows 44 = .ok (.bipush 16, 2) := by decide +kernel
theorem d_Model_grows_46 : decode b_Model_grows 46 = .ok (.if_icmp .ne 8, 3) := by decide +kernel
theorem d_Model_grows_49 : decode b_Model_grows 49 = .ok (.bipush (-2), 2) := by decide +kernel
theorem d_Model_grows_51 : decode b_Model_grows 51 = .ok (.goto 4, 3) := by decide +kernel
theorem d_Model_grows_54 : decode b_Model_grows 54 = .ok (.iconst 0, 1) := by decide +kernel
theorem d_Model_grows_55 : decode b_Model_grows 55 = .ok (.ireturn, 1) := by decide +kernel
theorem d_Model_reach_0 : decode b_Model_reach 0 = .ok (.aload_n 0, 1) := by decide +kernel
theorem d_Model_reach_1 : decode b_Model_reach 1 = .ok (.getfield 16, 3) := by decide +kernel
theorem d_Model_reach_4 : decode b_Model_reach 4 = .ok (.bipush 9, 2) := by decide +kernel
theorem d_Model_reach_6 : decode b_Model_reach 6 = .ok (.iload_n 1, 1) := by decide +kernel
theorem d_Model_reach_7 : decode b_Model_reach 7 = .ok (.imul, 1) := by decide +kernel
theorem d_Model_reach_8 : decode b_Model_reach 8 = .ok (.iload_n 2, 1) := by decide +kernel
theorem d_Model_reach_9 : decode b_Model_reach 9 = .ok (.iadd, 1) := by decide +kernel
theorem d_Model_reach_10 : decode b_Model_reach 10 = .ok (.iaload, 1) := by decide +kernel
theorem d_Model_reach_11 : decode b_Model_reach 11 = .ok (.ifCond .ne 15, 3) := by decide +kernel
theorem d_Model_reach_14 : decode b_Model_reach 14 = .ok (.aload_n 0, 1) := by decide +kernel
theorem d_Model_reach_15 : decode b_Model_reach 15 = .ok (.getfield 16, 3) := by decide +kernel
theorem d_Model_reach_18 : decode b_Model_reach 18 = .ok (.bipush 9, 2) := by decide +kernel
theorem d_Model_reach_20 : decode b_Model_reach 20 = .ok (.iload_n 1, 1) := by decide +kernel
theorem d_Model_reach_21 : decode b_Model_reach 21 = .ok (.imul, 1) := by decide +kernel
theorem d_Model_reach_22 : decode b_Model_reach 22 = .ok (.iload_n 2, 1) := by decide +kernel
theorem d_Model_reach_23 : decode b_Model_reach 23 = .ok (.iadd, 1) := by decide +kernel
theorem d_Model_reach_24 : decode b_Model_reach 24 = .ok (.iconst 1, 1) := by decide +kernel
theorem d_Model_reach_25 : decode b_Model_reach 25 = .ok (.iastore, 1) := by decide +kernel
theorem d_Model_reach_26 : decode b_Model_reach 26 = .ok (.return_, 1) := by decide +kernel
theorem d_Model_goOn_0 : decode b_Model_goOn 0 = .ok (.aload_n 0, 1) := by decide +kernel
theorem d_Model_goOn_1 : decode b_Model_goOn 1 = .ok (.iload_n 1, 1) := by decide +kernel
theorem d_Model_goOn_2 : decode b_Model_goOn 2 = .ok (.invokevirtual 42, 3) := by decide +kernel
theorem d_Model_goOn_5 : decode b_Model_goOn 5 = .ok (.ifCond .eq 4, 3) := by decide +kernel
theorem d_Model_goOn_8 : decode b_Model_goOn 8 = .ok (.return_, 1) := by decide +kernel
theorem d_Model_goOn_9 : decode b_Model_goOn 9 = .ok (.aload_n 0, 1) := by decide +kernel
theorem d_Model_goOn_10 : decode b_Model_goOn 10 = .ok (.getfield 9, 3) := by decide +kernel
theorem d_Model_goOn_13 : decode b_Model_goOn 13 = .ok (.iload_n 1, 1) := by decide +kernel
theorem d_Model_goOn_14 : decode b_Model_goOn 14 = .ok (.iaload, 1) := by decide +kernel
theorem d_Model_goOn_15 : decode b_Model_goOn 15 = .ok (.istore_n 3, 1) := by decide +kernel
theorem d_Model_goOn_16 : decode b_Model_goOn 16 = .ok (.iload_n 2, 1) := by decide +kernel
theorem d_Model_goOn_17 : decode b_Model_goOn 17 = .ok (.iload_n 3, 1) := by decide +kernel
theorem d_Model_goOn_18 : decode b_Model_goOn 18 = .ok (.invokestatic 46, 3) := by decide +kernel
theorem d_Model_goOn_21 : decode b_Model_goOn 21 = .ok (.iadd, 1) := by decide +kernel
theorem d_Model_goOn_22 : decode b_Model_goOn 22 = .ok (.istore 4, 2) := by decide +kernel
theorem d_Model_goOn_24 : decode b_Model_goOn 24 = .ok (.iload_n 3, 1) := by decide +kernel
theorem d_Model_goOn_25 : decode b_Model_goOn 25 = .ok (.bipush 14, 2) := by decide +kernel
theorem d_Model_goOn_27 : decode b_Model_goOn 27 = .ok (.if_icmp .eq 19, 3) := by decide +kernel
theorem d_Model_goOn_30 : decode b_Model_goOn 30 = .ok (.iload_n 3, 1) := by decide +kernel
theorem d_Model_goOn_31 : decode b_Model_goOn 31 = .ok (.bipush 17, 2) := by decide +kernel
theorem d_Model_goOn_33 : decode b_Model_goOn 33 = .ok (.if_icmp .eq 13, 3) := by decide +kernel
theorem d_Model_goOn_36 : decode b_Model_goOn 36 = .ok (.iload_n 3, 1) := by decide +kernel
theorem d_Model_goOn_37 : decode b_Model_goOn 37 = .ok (.bipush 18, 2) := by decide +kernel
theorem d_Model_goOn_39 : decode b_Model_goOn 39 = .ok (.if_icmp .eq 7, 3) := by decide +kernel
theorem d_Model_goOn_42 : decode b_Model_goOn 42 = .ok (.iconst 1, 1) := by decide +kernel
theorem d_Model_goOn_43 : decode b_Model_goOn 43 = .ok (.goto 4, 3) := by decide +kernel
theorem d_Model_goOn_46 : decode b_Model_goOn 46 = .ok (.iconst 0, 1) := by decide +kernel
theorem d_Model_goOn_47 : decode b_Model_goOn 47 = .ok (.istore 5, 2) := by decide +kernel
theorem d_Model_goOn_49 : decode b_Model_goOn 49 = .ok (.iload_n 2, 1) := by decide +kernel
theorem d_Model_goOn_50 : decode b_Model_goOn 50 = .ok (.aload_n 0, 1) := by decide +kernel
theorem d_Model_goOn_51 : decode b_Model_goOn 51 = .ok (.iload_n 3, 1) := by decide +kernel
theorem d_Model_goOn_52 : decode b_Model_goOn 52 = .ok (.invokevirtual 50, 3) := by decide +kernel
theorem d_Model_goOn_55 : decode b_Model_goOn 55 = .ok (.if_icmp .lt 25, 3) := by decide +kernel
theorem d_Model_goOn_58 : decode b_Model_goOn 58 = .ok (.iload 4, 2) := by decide +kernel
theorem d_Model_goOn_60 : decode b_Model_goOn 60 = .ok (.bipush 8, 2) := by decide +kernel
theorem d_Model_goOn_62 : decode b_Model_goOn 62 = .ok (.if_icmp .gt 18, 3) := by decide +kernel
theorem d_Model_goOn_65 : decode b_Model_goOn 65 = .ok (.iload 5, 2) := by decide +kernel
theorem d_Model_goOn_67 : decode b_Model_goOn 67 = .ok (.ifCond .eq 21, 3) := by decide +kernel
theorem d_Model_goOn_70 : decode b_Model_goOn 70 = .ok (.iload_n 1, 1) := by decide +kernel
theorem d_Model_goOn_71 : decode b_Model_goOn 71 = .ok (.iconst 1, 1) := by decide +kernel
theorem d_Model_goOn_72 : decode b_Model_goOn 72 = .ok (.iadd, 1) := by decide +kernel
theorem d_Model_goOn_73 : decode b_Model_goOn 73 = .ok (.aload_n 0, 1) := by decide +kernel
theorem d_Model_goOn_74 : decode b_Model_goOn 74 = .ok (.getfield 39, 3) := by decide +kernel
theorem d_Model_goOn_77 : decode b_Model_goOn 77 = .ok (.if_icmp .ne 11, 3) := by decide +kernel
theorem d_Model_goOn_80 : decode b_Model_goOn 80 = .ok (.aload_n 0, 1) := by decide +kernel
theorem d_Model_goOn_81 : decode b_Model_goOn 81 = .ok (.getfield 19, 3) := by decide +kernel
theorem d_Model_goOn_84 : decode b_Model_goOn 84 = .ok (.iload_n 1, 1) := by decide +kernel
theorem d_Model_goOn_85 : decode b_Model_goOn 85 = .ok (.iconst 1, 1) := by decide +kernel
theorem d_Model_goOn_86 : decode b_Model_goOn 86 = .ok (.bastore, 1) := by decide +kernel
theorem d_Model_goOn_87 : decode b_Model_goOn 87 = .ok (.return_, 1) := by decide +kernel
theorem d_Model_goOn_88 : decode b_Model_goOn 88 = .ok (.iload 5, 2) := by decide +kernel
theorem d_Model_goOn_90 : decode b_Model_goOn 90 = .ok (.ifCond .eq 12, 3) := by decide +kernel
theorem d_Model_goOn_93 : decode b_Model_goOn 93 = .ok (.aload_n 0, 1) := by decide +kernel
theorem d_Model_goOn_94 : decode b_Model_goOn 94 = .ok (.iload_n 1, 1) := by decide +kernel
theorem d_Model_goOn_95 : decode b_Model_goOn 95 = .ok (.iconst 1, 1) := by decide +kernel
theorem d_Model_goOn_96 : decode b_Model_goOn 96 = .ok (.iadd, 1) := by decide +kernel
theorem d_Model_goOn_97 : decode b_Model_goOn 97 = .ok (.iload 4, 2) := by decide +kernel
theorem d_Model_goOn_99 : decode b_Model_goOn 99 = .ok (.invokevirtual 53, 3) := by decide +kernel
theorem d_Model_goOn_102 : decode b_Model_goOn 102 = .ok (.iload_n 3, 1) := by decide +kernel
theorem d_Model_goOn_103 : decode b_Model_goOn 103 = .ok (.bipush 14, 2) := by decide +kernel
theorem d_Model_goOn_105 : decode b_Model_goOn 105 = .ok (.if_icmp .eq 9, 3) := by decide +kernel
theorem d_Model_goOn_108 : decode b_Model_goOn 108 = .ok (.iload_n 3, 1) := by decide +kernel
theorem d_Model_goOn_109 : decode b_Model_goOn 109 = .ok (.bipush 15, 2) := by decide +kernel
theorem d_Model_goOn_111 : decode b_Model_goOn 111 = .ok (.if_icmp .ne 15, 3) := by decide +kernel
theorem d_Model_goOn_114 : decode b_Model_goOn 114 = .ok (.aload_n 0, 1) := by decide +kernel
theorem d_Model_goOn_115 : decode b_Model_goOn 115 = .ok (.aload_n 0, 1) := by decide +kernel
theorem d_Model_goOn_116 : decode b_Model_goOn 116 = .ok (.getfield 13, 3) := by decide +kernel
theorem d_Model_goOn_119 : decode b_Model_goOn 119 = .ok (.iload_n 1, 1) := by decide +kernel
theorem d_Model_goOn_120 : decode b_Model_goOn 120 = .ok (.iaload, 1) := by decide +kernel
theorem d_Model_goOn_121 : decode b_Model_goOn 121 = .ok (.iload 4, 2) := by decide +kernel
theorem d_Model_goOn_123 : decode b_Model_goOn 123 = .ok (.invokevirtual 53, 3) := by decide +kernel
theorem d_Model_goOn_126 : decode b_Model_goOn 126 = .ok (.return_, 1) := by decide +kernel
theorem d_Model_fill_0 : decode b_Model_fill 0 = .ok (.iconst 0, 1) := by decide +kernel
theorem d_Model_fill_1 : decode b_Model_fill 1 = .ok (.istore_n 1, 1) := by decide +kernel
theorem d_Model_fill_2 : decode b_Model_fill 2 = .ok (.iload_n 1, 1) := by decide +kernel
theorem d_Model_fill_3 : decode b_Model_fill 3 = .ok (.aload_n 0, 1) := by decide +kernel
theorem d_Model_fill_4 : decode b_Model_fill 4 = .ok (.getfield 16, 3) := by decide +kernel
theorem d_Model_fill_7 : decode b_Model_fill 7 = .ok (.arraylength, 1) := by decide +kernel
theorem d_Model_fill_8 : decode b_Model_fill 8 = .ok (.if_icmp .ge 16, 3) := by decide +kernel
theorem d_Model_fill_11 : decode b_Model_fill 11 = .ok (.aload_n 0, 1) := by decide +kernel
theorem d_Model_fill_12 : decode b_Model_fill 12 = .ok (.getfield 16, 3) := by decide +kernel
theorem d_Model_fill_15 : decode b_Model_fill 15 = .ok (.iload_n 1, 1) := by decide +kernel
theorem d_Model_fill_16 : decode b_Model_fill 16 = .ok (.iconst 0, 1) := by decide +kernel
theorem d_Model_fill_17 : decode b_Model_fill 17 = .ok (.iastore, 1) := by decide +kernel
theorem d_Model_fill_18 : decode b_Model_fill 18 = .ok (.iinc 1 1, 3) := by decide +kernel
theorem d_Model_fill_21 : decode b_Model_fill 21 = .ok (.goto (-19), 3) := by decide +kernel
theorem d_Model_fill_24 : decode b_Model_fill 24 = .ok (.iconst 0, 1) := by decide +kernel
theorem d_Model_fill_25 : decode b_Model_fill 25 = .ok (.istore_n 1, 1) := by decide +kernel
theorem d_Model_fill_26 : decode b_Model_fill 26 = .ok (.iload_n 1, 1) := by decide +kernel
theorem d_Model_fill_27 : decode b_Model_fill 27 = .ok (.aload_n 0, 1) := by decide +kernel
theorem d_Model_fill_28 : decode b_Model_fill 28 = .ok (.getfield 39, 3) := by decide +kernel
theorem d_Model_fill_31 : decode b_Model_fill 31 = .ok (.if_icmp .ge 20, 3) := by decide +kernel
theorem d_Model_fill_34 : decode b_Model_fill 34 = .ok (.aload_n 0, 1) := by decide +kernel
theorem d_Model_fill_35 : decode b_Model_fill 35 = .ok (.getfield 19, 3) := by decide +kernel
theorem d_Model_fill_38 : decode b_Model_fill 38 = .ok (.iload_n 1, 1) := by decide +kernel
theorem d_Model_fill_39 : decode b_Model_fill 39 = .ok (.aload_n 0, 1) := by decide +kernel
theorem d_Model_fill_40 : decode b_Model_fill 40 = .ok (.iload_n 1, 1) := by decide +kernel
theorem d_Model_fill_41 : decode b_Model_fill 41 = .ok (.invokevirtual 42, 3) := by decide +kernel
theorem d_Model_fill_44 : decode b_Model_fill 44 = .ok (.bastore, 1) := by decide +kernel
theorem d_Model_fill_45 : decode b_Model_fill 45 = .ok (.iinc 1 1, 3) := by decide +kernel
theorem d_Model_fill_48 : decode b_Model_fill 48 = .ok (.goto (-22), 3) := by decide +kernel
theorem d_Model_fill_51 : decode b_Model_fill 51 = .ok (.aload_n 0, 1) := by decide +kernel
theorem d_Model_fill_52 : decode b_Model_fill 52 = .ok (.getfield 39, 3) := by decide +kernel
theorem d_Model_fill_55 : decode b_Model_fill 55 = .ok (.ifCond .le 10, 3) := by decide +kernel
theorem d_Model_fill_58 : decode b_Model_fill 58 = .ok (.aload_n 0, 1) := by decide +kernel
theorem d_Model_fill_59 : decode b_Model_fill 59 = .ok (.getfield 16, 3) := by decide +kernel
theorem d_Model_fill_62 : decode b_Model_fill 62 = .ok (.iconst 0, 1) := by decide +kernel
theorem d_Model_fill_63 : decode b_Model_fill 63 = .ok (.iconst 1, 1) := by decide +kernel
theorem d_Model_fill_64 : decode b_Model_fill 64 = .ok (.iastore, 1) := by decide +kernel
theorem d_Model_fill_65 : decode b_Model_fill 65 = .ok (.iconst 1, 1) := by decide +kernel
theorem d_Model_fill_66 : decode b_Model_fill 66 = .ok (.istore_n 1, 1) := by decide +kernel
theorem d_Model_fill_67 : decode b_Model_fill 67 = .ok (.iload_n 1, 1) := by decide +kernel
theorem d_Model_fill_68 : decode b_Model_fill 68 = .ok (.ifCond .eq 61, 3) := by decide +kernel
theorem d_Model_fill_71 : decode b_Model_fill 71 = .ok (.iconst 0, 1) := by decide +kernel
theorem d_Model_fill_72 : decode b_Model_fill 72 = .ok (.istore_n 1, 1) := by decide +kernel
theorem d_Model_fill_73 : decode b_Model_fill 73 = .ok (.iconst 0, 1) := by decide +kernel
theorem d_Model_fill_74 : decode b_Model_fill 74 = .ok (.istore_n 2, 1) := by decide +kernel
theorem d_Model_fill_75 : decode b_Model_fill 75 = .ok (.iload_n 2, 1) := by decide +kernel
theorem d_Model_fill_76 : decode b_Model_fill 76 = .ok (.bipush 9, 2) := by decide +kernel
theorem d_Model_fill_78 : decode b_Model_fill 78 = .ok (.aload_n 0, 1) := by decide +kernel
theorem d_Model_fill_79 : decode b_Model_fill 79 = .ok (.getfield 39, 3) := by decide +kernel
theorem d_Model_fill_82 : decode b_Model_fill 82 = .ok (.imul, 1) := by decide +kernel
theorem d_Model_fill_83 : decode b_Model_fill 83 = .ok (.if_icmp .ge 43, 3) := by decide +kernel
theorem d_Model_fill_86 : decode b_Model_fill 86 = .ok (.aload_n 0, 1) := by decide +kernel
theorem d_Model_fill_87 : decode b_Model_fill 87 = .ok (.getfield 16, 3) := by decide +kernel
theorem d_Model_fill_90 : decode b_Model_fill 90 = .ok (.iload_n 2, 1) := by decide +kernel
theorem d_Model_fill_91 : decode b_Model_fill 91 = .ok (.iaload, 1) := by decide +kernel
theorem d_Model_fill_92 : decode b_Model_fill 92 = .ok (.iconst 1, 1) := by decide +kernel
theorem d_Model_fill_93 : decode b_Model_fill 93 = .ok (.if_icmp .eq 6, 3) := by decide +kernel
theorem d_Model_fill_96 : decode b_Model_fill 96 = .ok (.goto 24, 3) := by decide +kernel
theorem d_Model_fill_99 : decode b_Model_fill 99 = .ok (.aload_n 0, 1) := by decide +kernel
theorem d_Model_fill_100 : decode b_Model_fill 100 = .ok (.getfield 16, 3) := by decide +kernel
theorem d_Model_fill_103 : decode b_Model_fill 103 = .ok (.iload_n 2, 1) := by decide +kernel
theorem d_Model_fill_104 : decode b_Model_fill 104 = .ok (.iconst 2, 1) := by decide +kernel
theorem d_Model_fill_105 : decode b_Model_fill 105 = .ok (.iastore, 1) := by decide +kernel
theorem d_Model_fill_106 : decode b_Model_fill 106 = .ok (.iconst 1, 1) := by decide +kernel
theorem d_Model_fill_107 : decode b_Model_fill 107 = .ok (.istore_n 1, 1) := by decide +kernel
theorem d_Model_fill_108 : decode b_Model_fill 108 = .ok (.aload_n 0, 1) := by decide +kernel
theorem d_Model_fill_109 : decode b_Model_fill 109 = .ok (.iload_n 2, 1) := by decide +kernel
theorem d_Model_fill_110 : decode b_Model_fill 110 = .ok (.bipush 9, 2) := by decide +kernel
theorem d_Model_fill_112 : decode b_Model_fill 112 = .ok (.idiv, 1) := by decide +kernel
theorem d_Model_fill_113 : decode b_Model_fill 113 = .ok (.iload_n 2, 1) := by decide +kernel
theorem d_Model_fill_114 : decode b_Model_fill 114 = .ok (.bipush 9, 2) := by decide +kernel
theorem d_Model_fill_116 : decode b_Model_fill 116 = .ok (.irem, 1) := by decide +kernel
theorem d_Model_fill_117 : decode b_Model_fill 117 = .ok (.invokevirtual 57, 3) := by decide +kernel
theorem d_Model_fill_120 : decode b_Model_fill 120 = .ok (.iinc 2 1, 3) := by decide +kernel
theorem d_Model_fill_123 : decode b_Model_fill 123 = .ok (.goto (-48), 3) := by decide +kernel
theorem d_Model_fill_126 : decode b_Model_fill 126 = .ok (.goto (-59), 3) := by decide +kernel
theorem d_Model_fill_129 : decode b_Model_fill 129 = .ok (.return_, 1) := by decide +kernel
theorem d_Model_heights_0 : decode b_Model_heights 0 = .ok (.iload_n 1, 1) := by decide +kernel
theorem d_Model_heights_1 : decode b_Model_heights 1 = .ok (.ifCond .lt 11, 3) := by decide +kernel
theorem d_Model_heights_4 : decode b_Model_heights 4 = .ok (.iload_n 1, 1) := by decide +kernel
theorem d_Model_heights_5 : decode b_Model_heights 5 = .ok (.aload_n 0, 1) := by decide +kernel
theorem d_Model_heights_6 : decode b_Model_heights 6 = .ok (.getfield 39, 3) := by decide +kernel
theorem d_Model_heights_9 : decode b_Model_heights 9 = .ok (.if_icmp .lt 5, 3) := by decide +kernel
theorem d_Model_heights_12 : decode b_Model_heights 12 = .ok (.iconst (-1), 1) := by decide +kernel
theorem d_Model_heights_13 : decode b_Model_heights 13 = .ok (.ireturn, 1) := by decide +kernel
theorem d_Model_heights_14 : decode b_Model_heights 14 = .ok (.aload_n 0, 1) := by decide +kernel
theorem d_Model_heights_15 : decode b_Model_heights 15 = .ok (.invokevirtual 60, 3) := by decide +kernel
theorem d_Model_heights_18 : decode b_Model_heights 18 = .ok (.iconst 0, 1) := by decide +kernel
theorem d_Model_heights_19 : decode b_Model_heights 19 = .ok (.istore_n 2, 1) := by decide +kernel
theorem d_Model_heights_20 : decode b_Model_heights 20 = .ok (.iconst 0, 1) := by decide +kernel
theorem d_Model_heights_21 : decode b_Model_heights 21 = .ok (.istore_n 3, 1) := by decide +kernel
theorem d_Model_heights_22 : decode b_Model_heights 22 = .ok (.iload_n 3, 1) := by decide +kernel
theorem d_Model_heights_23 : decode b_Model_heights 23 = .ok (.bipush 9, 2) := by decide +kernel
theorem d_Model_heights_25 : decode b_Model_heights 25 = .ok (.if_icmp .ge 33, 3) := by decide +kernel
theorem d_Model_heights_28 : decode b_Model_heights 28 = .ok (.iload_n 2, 1) := by decide +kernel
theorem d_Model_heights_29 : decode b_Model_heights 29 = .ok (.aload_n 0, 1) := by decide +kernel
theorem d_Model_heights_30 : decode b_Model_heights 30 = .ok (.getfield 16, 3) := by decide +kernel
theorem d_Model_heights_33 : decode b_Model_heights 33 = .ok (.bipush 9, 2) := by decide +kernel
theorem d_Model_heights_35 : decode b_Model_heights 35 = .ok (.iload_n 1, 1) := by decide +kernel
theorem d_Model_heights_36 : decode b_Model_heights 36 = .ok (.imul, 1) := by decide +kernel
theorem d_Model_heights_37 : decode b_Model_heights 37 = .ok (.iload_n 3, 1) := by decide +kernel
theorem d_Model_heights_38 : decode b_Model_heights 38 = .ok (.iadd, 1) := by decide +kernel
theorem d_Model_heights_39 : decode b_Model_heights 39 = .ok (.iaload, 1) := by decide +kernel
theorem d_Model_heights_40 : decode b_Model_heights 40 = .ok (.ifCond .eq 9, 3) := by decide +kernel
theorem d_Model_heights_43 : decode b_Model_heights 43 = .ok (.iconst 1, 1) := by decide +kernel
theorem d_Model_heights_44 : decode b_Model_heights 44 = .ok (.iload_n 3, 1) := by decide +kernel
theorem d_Model_heights_45 : decode b_Model_heights 45 = .ok (.ishl, 1) := by decide +kernel
theorem d_Model_heights_46 : decode b_Model_heights 46 = .ok (.goto 4, 3) := by decide +kernel
theorem d_Model_heights_49 : decode b_Model_heights 49 = .ok (.iconst 0, 1) := by decide +kernel
theorem d_Model_heights_50 : decode b_Model_heights 50 = .ok (.ior, 1) := by decide +kernel
theorem d_Model_heights_51 : decode b_Model_heights 51 = .ok (.istore_n 2, 1) := by decide +kernel
theorem d_Model_heights_52 : decode b_Model_heights 52 = .ok (.iinc 3 1, 3) := by decide +kernel
theorem d_Model_heights_55 : decode b_Model_heights 55 = .ok (.goto (-33), 3) := by decide +kernel
theorem d_Model_heights_58 : decode b_Model_heights 58 = .ok (.iload_n 2, 1) := by decide +kernel
theorem d_Model_heights_59 : decode b_Model_heights 59 = .ok (.ireturn, 1) := by decide +kernel
theorem d_Model_check_0 : decode b_Model_check 0 = .ok (.aload_n 0, 1) := by decide +kernel
theorem d_Model_check_1 : decode b_Model_check 1 = .ok (.getfield 39, 3) := by decide +kernel
theorem d_Model_check_4 : decode b_Model_check 4 = .ok (.ifCond .ne 6, 3) := by decide +kernel
theorem d_Model_check_7 : decode b_Model_check 7 = .ok (.bipush 64, 2) := by decide +kernel
theorem d_Model_check_9 : decode b_Model_check 9 = .ok (.ireturn, 1) := by decide +kernel
theorem d_Model_check_10 : decode b_Model_check 10 = .ok (.aload_n 0, 1) := by decide +kernel
theorem d_Model_check_11 : decode b_Model_check 11 = .ok (.invokevirtual 60, 3) := by decide +kernel
theorem d_Model_check_14 : decode b_Model_check 14 = .ok (.iconst 0, 1) := by decide +kernel
theorem d_Model_check_15 : decode b_Model_check 15 = .ok (.istore_n 1, 1) := by decide +kernel
theorem d_Model_check_16 : decode b_Model_check 16 = .ok (.iload_n 1, 1) := by decide +kernel
theorem d_Model_check_17 : decode b_Model_check 17 = .ok (.aload_n 0, 1) := by decide +kernel
theorem d_Model_check_18 : decode b_Model_check 18 = .ok (.getfield 39, 3) := by decide +kernel
theorem d_Model_check_21 : decode b_Model_check 21 = .ok (.if_icmp .ge 63, 3) := by decide +kernel
theorem d_Model_check_24 : decode b_Model_check 24 = .ok (.iconst 0, 1) := by decide +kernel
theorem d_Model_check_25 : decode b_Model_check 25 = .ok (.istore_n 2, 1) := by decide +kernel
theorem d_Model_check_26 : decode b_Model_check 26 = .ok (.iconst 0, 1) := by decide +kernel
theorem d_Model_check_27 : decode b_Model_check 27 = .ok (.istore_n 3, 1) := by decide +kernel
theorem d_Model_check_28 : decode b_Model_check 28 = .ok (.iload_n 3, 1) := by decide +kernel
theorem d_Model_check_29 : decode b_Model_check 29 = .ok (.bipush 9, 2) := by decide +kernel
theorem d_Model_check_31 : decode b_Model_check 31 = .ok (.if_icmp .ge 31, 3) := by decide +kernel
theorem d_Model_check_34 : decode b_Model_check 34 = .ok (.iload_n 2, 1) := by decide +kernel
theorem d_Model_check_35 : decode b_Model_check 35 = .ok (.aload_n 0, 1) := by decide +kernel
theorem d_Model_check_36 : decode b_Model_check 36 = .ok (.getfield 16, 3) := by decide +kernel
theorem d_Model_check_39 : decode b_Model_check 39 = .ok (.bipush 9, 2) := by decide +kernel
theorem d_Model_check_41 : decode b_Model_check 41 = .ok (.iload_n 1, 1) := by decide +kernel
theorem d_Model_check_42 : decode b_Model_check 42 = .ok (.imul, 1) := by decide +kernel
theorem d_Model_check_43 : decode b_Model_check 43 = .ok (.iload_n 3, 1) := by decide +kernel
theorem d_Model_check_44 : decode b_Model_check 44 = .ok (.iadd, 1) := by decide +kernel
theorem d_Model_check_45 : decode b_Model_check 45 = .ok (.iaload, 1) := by decide +kernel
theorem d_Model_check_46 : decode b_Model_check 46 = .ok (.ifCond .eq 7, 3) := by decide +kernel
theorem d_Model_check_49 : decode b_Model_check 49 = .ok (.iconst 1, 1) := by decide +kernel
theorem d_Model_check_50 : decode b_Model_check 50 = .ok (.goto 4, 3) := by decide +kernel
theorem d_Model_check_53 : decode b_Model_check 53 = .ok (.iconst 0, 1) := by decide +kernel
theorem d_Model_check_54 : decode b_Model_check 54 = .ok (.iadd, 1) := by decide +kernel
theorem d_Model_check_55 : decode b_Model_check 55 = .ok (.istore_n 2, 1) := by decide +kernel
theorem d_Model_check_56 : decode b_Model_check 56 = .ok (.iinc 3 1, 3) := by decide +kernel
theorem d_Model_check_59 : decode b_Model_check 59 = .ok (.goto (-31), 3) := by decide +kernel
theorem d_Model_check_62 : decode b_Model_check 62 = .ok (.aload_n 0, 1) := by decide +kernel
theorem d_Model_check_63 : decode b_Model_check 63 = .ok (.getfield 19, 3) := by decide +kernel
theorem d_Model_check_66 : decode b_Model_check 66 = .ok (.iload_n 1, 1) := by decide +kernel
theorem d_Model_check_67 : decode b_Model_check 67 = .ok (.baload, 1) := by decide +kernel
theorem d_Model_check_68 : decode b_Model_check 68 = .ok (.ifCond .ne 8, 3) := by decide +kernel
theorem d_Model_check_71 : decode b_Model_check 71 = .ok (.iload_n 2, 1) := by decide +kernel
theorem d_Model_check_72 : decode b_Model_check 72 = .ok (.iconst 1, 1) := by decide +kernel
theorem d_Model_check_73 : decode b_Model_check 73 = .ok (.if_icmp .le 5, 3) := by decide +kernel
theorem d_Model_check_76 : decode b_Model_check 76 = .ok (.iload_n 1, 1) := by decide +kernel
theorem d_Model_check_77 : decode b_Model_check 77 = .ok (.ireturn, 1) := by decide +kernel
theorem d_Model_check_78 : decode b_Model_check 78 = .ok (.iinc 1 1, 3) := by decide +kernel
theorem d_Model_check_81 : decode b_Model_check 81 = .ok (.goto (-65), 3) := by decide +kernel
theorem d_Model_check_84 : decode b_Model_check 84 = .ok (.bipush (-2), 2) := by decide +kernel
theorem d_Model_check_86 : decode b_Model_check 86 = .ok (.ireturn, 1) := by decide +kernel
theorem d_Model_reckoned_0 : decode b_Model_reckoned 0 = .ok (.iload_n 0, 1) := by decide +kernel
theorem d_Model_reckoned_1 : decode b_Model_reckoned 1 = .ok (.tableswitch 86 7 12 #[39, 43, 47, 51, 63, 75], 39) := by decide +kernel
theorem d_Model_reckoned_40 : decode b_Model_reckoned 40 = .ok (.iload_n 1, 1) := by decide +kernel
theorem d_Model_reckoned_41 : decode b_Model_reckoned 41 = .ok (.iload_n 2, 1) := by decide +kernel
theorem d_Model_reckoned_42 : decode b_Model_reckoned 42 = .ok (.iadd, 1) := by decide +kernel
theorem d_Model_reckoned_43 : decode b_Model_reckoned 43 = .ok (.ireturn, 1) := by decide +kernel
theorem d_Model_reckoned_44 : decode b_Model_reckoned 44 = .ok (.iload_n 1, 1) := by decide +kernel
theorem d_Model_reckoned_45 : decode b_Model_reckoned 45 = .ok (.iload_n 2, 1) := by decide +kernel
theorem d_Model_reckoned_46 : decode b_Model_reckoned 46 = .ok (.isub, 1) := by decide +kernel
theorem d_Model_reckoned_47 : decode b_Model_reckoned 47 = .ok (.ireturn, 1) := by decide +kernel
theorem d_Model_reckoned_48 : decode b_Model_reckoned 48 = .ok (.iload_n 1, 1) := by decide +kernel
theorem d_Model_reckoned_49 : decode b_Model_reckoned 49 = .ok (.iload_n 2, 1) := by decide +kernel
theorem d_Model_reckoned_50 : decode b_Model_reckoned 50 = .ok (.imul, 1) := by decide +kernel
theorem d_Model_reckoned_51 : decode b_Model_reckoned 51 = .ok (.ireturn, 1) := by decide +kernel
theorem d_Model_reckoned_52 : decode b_Model_reckoned 52 = .ok (.iload_n 2, 1) := by decide +kernel
theorem d_Model_reckoned_53 : decode b_Model_reckoned 53 = .ok (.ifCond .ne 7, 3) := by decide +kernel
theorem d_Model_reckoned_56 : decode b_Model_reckoned 56 = .ok (.iconst 0, 1) := by decide +kernel
theorem d_Model_reckoned_57 : decode b_Model_reckoned 57 = .ok (.goto 6, 3) := by decide +kernel
theorem d_Model_reckoned_60 : decode b_Model_reckoned 60 = .ok (.iload_n 1, 1) := by decide +kernel
theorem d_Model_reckoned_61 : decode b_Model_reckoned 61 = .ok (.iload_n 2, 1) := by decide +kernel
theorem d_Model_reckoned_62 : decode b_Model_reckoned 62 = .ok (.idiv, 1) := by decide +kernel
theorem d_Model_reckoned_63 : decode b_Model_reckoned 63 = .ok (.ireturn, 1) := by decide +kernel
theorem d_Model_reckoned_64 : decode b_Model_reckoned 64 = .ok (.iload_n 2, 1) := by decide +kernel
theorem d_Model_reckoned_65 : decode b_Model_reckoned 65 = .ok (.ifCond .ne 7, 3) := by decide +kernel
theorem d_Model_reckoned_68 : decode b_Model_reckoned 68 = .ok (.iconst 0, 1) := by decide +kernel
theorem d_Model_reckoned_69 : decode b_Model_reckoned 69 = .ok (.goto 6, 3) := by decide +kernel
theorem d_Model_reckoned_72 : decode b_Model_reckoned 72 = .ok (.iload_n 1, 1) := by decide +kernel
theorem d_Model_reckoned_73 : decode b_Model_reckoned 73 = .ok (.iload_n 2, 1) := by decide +kernel
theorem d_Model_reckoned_74 : decode b_Model_reckoned 74 = .ok (.irem, 1) := by decide +kernel
theorem d_Model_reckoned_75 : decode b_Model_reckoned 75 = .ok (.ireturn, 1) := by decide +kernel
theorem d_Model_reckoned_76 : decode b_Model_reckoned 76 = .ok (.iload_n 1, 1) := by decide +kernel
theorem d_Model_reckoned_77 : decode b_Model_reckoned 77 = .ok (.iload_n 2, 1) := by decide +kernel
theorem d_Model_reckoned_78 : decode b_Model_reckoned 78 = .ok (.if_icmp .ge 7, 3) := by decide +kernel
theorem d_Model_reckoned_81 : decode b_Model_reckoned 81 = .ok (.iconst 1, 1) := by decide +kernel
theorem d_Model_reckoned_82 : decode b_Model_reckoned 82 = .ok (.goto 4, 3) := by decide +kernel
theorem d_Model_reckoned_85 : decode b_Model_reckoned 85 = .ok (.iconst 0, 1) := by decide +kernel
theorem d_Model_reckoned_86 : decode b_Model_reckoned 86 = .ok (.ireturn, 1) := by decide +kernel
theorem d_Model_reckoned_87 : decode b_Model_reckoned 87 = .ok (.iload_n 1, 1) := by decide +kernel
theorem d_Model_reckoned_88 : decode b_Model_reckoned 88 = .ok (.iload_n 2, 1) := by decide +kernel
theorem d_Model_reckoned_89 : decode b_Model_reckoned 89 = .ok (.if_icmp .ne 7, 3) := by decide +kernel
theorem d_Model_reckoned_92 : decode b_Model_reckoned 92 = .ok (.iconst 1, 1) := by decide +kernel
theorem d_Model_reckoned_93 : decode b_Model_reckoned 93 = .ok (.goto 4, 3) := by decide +kernel
theorem d_Model_reckoned_96 : decode b_Model_reckoned 96 = .ok (.iconst 0, 1) := by decide +kernel
theorem d_Model_reckoned_97 : decode b_Model_reckoned 97 = .ok (.ireturn, 1) := by decide +kernel
theorem d_Model_done_0 : decode b_Model_done 0 = .ok (.iconst 0, 1) := by decide +kernel
theorem d_Model_done_1 : decode b_Model_done 1 = .ok (.istore 4, 2) := by decide +kernel
theorem d_Model_done_3 : decode b_Model_done 3 = .ok (.iconst 0, 1) := by decide +kernel
theorem d_Model_done_4 : decode b_Model_done 4 = .ok (.istore 5, 2) := by decide +kernel
theorem d_Model_done_6 : decode b_Model_done 6 = .ok (.iconst 0, 1) := by decide +kernel
theorem d_Model_done_7 : decode b_Model_done 7 = .ok (.istore 6, 2) := by decide +kernel
theorem d_Model_done_9 : decode b_Model_done 9 = .ok (.iload 6, 2) := by decide +kernel
theorem d_Model_done_11 : decode b_Model_done 11 = .ok (.iconst 4, 1) := by decide +kernel
theorem d_Model_done_12 : decode b_Model_done 12 = .ok (.if_icmp .ge 17, 3) := by decide +kernel
theorem d_Model_done_15 : decode b_Model_done 15 = .ok (.aload_n 0, 1) := by decide +kernel
theorem d_Model_done_16 : decode b_Model_done 16 = .ok (.getfield 26, 3) := by decide +kernel
theorem d_Model_done_19 : decode b_Model_done 19 = .ok (.iload 6, 2) := by decide +kernel
theorem d_Model_done_21 : decode b_Model_done 21 = .ok (.iconst 0, 1) := by decide +kernel
theorem d_Model_done_22 : decode b_Model_done 22 = .ok (.iastore, 1) := by decide +kernel
theorem d_Model_done_23 : decode b_Model_done 23 = .ok (.iinc 6 1, 3) := by decide +kernel
theorem d_Model_done_26 : decode b_Model_done 26 = .ok (.goto (-17), 3) := by decide +kernel
theorem d_Model_done_29 : decode b_Model_done 29 = .ok (.aload_n 0, 1) := by decide +kernel
theorem d_Model_done_30 : decode b_Model_done 30 = .ok (.getfield 63, 3) := by decide +kernel
theorem d_Model_done_33 : decode b_Model_done 33 = .ok (.sipush 300, 3) := by decide +kernel
theorem d_Model_done_36 : decode b_Model_done 36 = .ok (.if_icmp .ge 435, 3) := by decide +kernel
theorem d_Model_done_39 : decode b_Model_done 39 = .ok (.aload_n 0, 1) := by decide +kernel
theorem d_Model_done_40 : decode b_Model_done 40 = .ok (.dup, 1) := by decide +kernel
theorem d_Model_done_41 : decode b_Model_done 41 = .ok (.getfield 63, 3) := by decide +kernel
theorem d_Model_done_44 : decode b_Model_done 44 = .ok (.iconst 1, 1) := by decide +kernel
theorem d_Model_done_45 : decode b_Model_done 45 = .ok (.iadd, 1) := by decide +kernel
theorem d_Model_done_46 : decode b_Model_done 46 = .ok (.putfield 63, 3) := by decide +kernel
theorem d_Model_done_49 : decode b_Model_done 49 = .ok (.aload_n 0, 1) := by decide +kernel
theorem d_Model_done_50 : decode b_Model_done 50 = .ok (.getfield 9, 3) := by decide +kernel
theorem d_Model_done_53 : decode b_Model_done 53 = .ok (.iload 5, 2) := by decide +kernel
theorem d_Model_done_55 : decode b_Model_done 55 = .ok (.iaload, 1) := by decide +kernel
theorem d_Model_done_56 : decode b_Model_done 56 = .ok (.istore 6, 2) := by decide +kernel
theorem d_Model_done_58 : decode b_Model_done 58 = .ok (.aload_n 0, 1) := by decide +kernel
theorem d_Model_done_59 : decode b_Model_done 59 = .ok (.getfield 13, 3) := by decide +kernel
theorem d_Model_done_62 : decode b_Model_done 62 = .ok (.iload 5, 2) := by decide +kernel
theorem d_Model_done_64 : decode b_Model_done 64 = .ok (.iaload, 1) := by decide +kernel
theorem d_Model_done_65 : decode b_Model_done 65 = .ok (.istore 7, 2) := by decide +kernel
theorem d_Model_done_67 : decode b_Model_done 67 = .ok (.iinc 5 1, 3) := by decide +kernel
theorem d_Model_done_70 : decode b_Model_done 70 = .ok (.iload 6, 2) := by decide +kernel
theorem d_Model_done_72 : decode b_Model_done 72 = .ok (.tableswitch 363 0 18 #[92, 107, 140, 160, 180, 202, 245, 363, 363, 363, 363, 363, 363, 363, 251, 258, 278, 339, 361], 92) := by decide +kernel
theorem d_Model_done_164 : decode b_Model_done 164 = .ok (.aload_n 0, 1) := by decide +kernel
theorem d_Model_done_165 : decode b_Model_done 165 = .ok (.getfield 23, 3) := by decide +kernel
theorem d_Model_done_168 : decode b_Model_done 168 = .ok (.iload 4, 2) := by decide +kernel
theorem d_Model_done_170 : decode b_Model_done 170 = .ok (.iinc 4 1, 3) := by decide +kernel
theorem d_Model_done_173 : decode b_Model_done 173 = .ok (.iload 7, 2) := by decide +kernel
theorem d_Model_done_175 : decode b_Model_done 175 = .ok (.iastore, 1) := by decide +kernel
theorem d_Model_done_176 : decode b_Model_done 176 = .ok (.goto 292, 3) := by decide +kernel
theorem d_Model_done_179 : decode b_Model_done 179 = .ok (.aload_n 0, 1) := by decide +kernel
theorem d_Model_done_180 : decode b_Model_done 180 = .ok (.getfield 23, 3) := by decide +kernel
theorem d_Model_done_183 : decode b_Model_done 183 = .ok (.iload 4, 2) := by decide +kernel
theorem d_Model_done_185 : decode b_Model_done 185 = .ok (.iinc 4 1, 3) := by decide +kernel
theorem d_Model_done_188 : decode b_Model_done 188 = .ok (.iload 7, 2) := by decide +kernel
theorem d_Model_done_190 : decode b_Model_done 190 = .ok (.ifCond .ne 7, 3) := by decide +kernel
theorem d_Model_done_193 : decode b_Model_done 193 = .ok (.iload_n 1, 1) := by decide +kernel
theorem d_Model_done_194 : decode b_Model_done 194 = .ok (.goto 14, 3) := by decide +kernel
theorem d_Model_done_197 : decode b_Model_done 197 = .ok (.iload 7, 2) := by decide +kernel
theorem d_Model_done_199 : decode b_Model_done 199 = .ok (.iconst 1, 1) := by decide +kernel
theorem d_Model_done_200 : decode b_Model_done 200 = .ok (.if_icmp .ne 7, 3) := by decide +kernel
theorem d_Model_done_203 : decode b_Model_done 203 = .ok (.iload_n 2, 1) := by decide +kernel
theorem d_Model_done_204 : decode b_Model_done 204 = .ok (.goto 4, 3) := by decide +kernel
theorem d_Model_done_207 : decode b_Model_done 207 = .ok (.iload_n 3, 1) := by decide +kernel
theorem d_Model_done_208 : decode b_Model_done 208 = .ok (.iastore, 1) := by decide +kernel
theorem d_Model_done_209 : decode b_Model_done 209 = .ok (.goto 259, 3) := by decide +kernel
theorem d_Model_done_212 : decode b_Model_done 212 = .ok (.aload_n 0, 1) := by decide +kernel
theorem d_Model_done_213 : decode b_Model_done 213 = .ok (.getfield 23, 3) := by decide +kernel
theorem d_Model_done_216 : decode b_Model_done 216 = .ok (.iload 4, 2) := by decide +kernel
theorem d_Model_done_218 : decode b_Model_done 218 = .ok (.iinc 4 1, 3) := by decide +kernel
theorem d_Model_done_221 : decode b_Model_done 221 = .ok (.aload_n 0, 1) := by decide +kernel
theorem d_Model_done_222 : decode b_Model_done 222 = .ok (.getfield 26, 3) := by decide +kernel
theorem d_Model_done_225 : decode b_Model_done 225 = .ok (.iload 7, 2) := by decide +kernel
theorem d_Model_done_227 : decode b_Model_done 227 = .ok (.iaload, 1) := by decide +kernel
theorem d_Model_done_228 : decode b_Model_done 228 = .ok (.iastore, 1) := by decide +kernel
theorem d_Model_done_229 : decode b_Model_done 229 = .ok (.goto 239, 3) := by decide +kernel
theorem d_Model_done_232 : decode b_Model_done 232 = .ok (.aload_n 0, 1) := by decide +kernel
theorem d_Model_done_233 : decode b_Model_done 233 = .ok (.getfield 26, 3) := by decide +kernel
theorem d_Model_done_236 : decode b_Model_done 236 = .ok (.iload 7, 2) := by decide +kernel
theorem d_Model_done_238 : decode b_Model_done 238 = .ok (.aload_n 0, 1) := by decide +kernel
theorem d_Model_done_239 : decode b_Model_done 239 = .ok (.getfield 23, 3) := by decide +kernel
theorem d_Model_done_242 : decode b_Model_done 242 = .ok (.iinc 4 (-1), 3) := by decide +kernel
theorem d_Model_done_245 : decode b_Model_done 245 = .ok (.iload 4, 2) := by decide +kernel
theorem d_Model_done_247 : decode b_Model_done 247 = .ok (.iaload, 1) := by decide +kernel
theorem d_Model_done_248 : decode b_Model_done 248 = .ok (.iastore, 1) := by decide +kernel
theorem d_Model_done_249 : decode b_Model_done 249 = .ok (.goto 219, 3) := by decide +kernel
theorem d_Model_done_252 : decode b_Model_done 252 = .ok (.aload_n 0, 1) := by decide +kernel
theorem d_Model_done_253 : decode b_Model_done 253 = .ok (.getfield 23, 3) := by decide +kernel
theorem d_Model_done_256 : decode b_Model_done 256 = .ok (.iload 4, 2) := by decide +kernel
theorem d_Model_done_258 : decode b_Model_done 258 = .ok (.aload_n 0, 1) := by decide +kernel
theorem d_Model_done_259 : decode b_Model_done 259 = .ok (.getfield 23, 3) := by decide +kernel
theorem d_Model_done_262 : decode b_Model_done 262 = .ok (.iload 4, 2) := by decide +kernel
theorem d_Model_done_264 : decode b_Model_done 264 = .ok (.iconst 1, 1) := by decide +kernel
theorem d_Model_done_265 : decode b_Model_done 265 = .ok (.isub, 1) := by decide +kernel
theorem d_Model_done_266 : decode b_Model_done 266 = .ok (.iaload, 1) := by decide +kernel
theorem d_Model_done_267 : decode b_Model_done 267 = .ok (.iastore, 1) := by decide +kernel
theorem d_Model_done_268 : decode b_Model_done 268 = .ok (.iinc 4 1, 3) := by decide +kernel
theorem d_Model_done_271 : decode b_Model_done 271 = .ok (.goto 197, 3) := by decide +kernel
theorem d_Model_done_274 : decode b_Model_done 274 = .ok (.aload_n 0, 1) := by decide +kernel
theorem d_Model_done_275 : decode b_Model_done 275 = .ok (.getfield 23, 3) := by decide +kernel
theorem d_Model_done_278 : decode b_Model_done 278 = .ok (.iload 4, 2) := by decide +kernel
theorem d_Model_done_280 : decode b_Model_done 280 = .ok (.iconst 1, 1) := by decide +kernel
theorem d_Model_done_281 : decode b_Model_done 281 = .ok (.isub, 1) := by decide +kernel
theorem d_Model_done_282 : decode b_Model_done 282 = .ok (.iaload, 1) := by decide +kernel
theorem d_Model_done_283 : decode b_Model_done 283 = .ok (.istore 8, 2) := by decide +kernel
theorem d_Model_done_285 : decode b_Model_done 285 = .ok (.aload_n 0, 1) := by decide +kernel
theorem d_Model_done_286 : decode b_Model_done 286 = .ok (.getfield 23, 3) := by decide +kernel
theorem d_Model_done_289 : decode b_Model_done 289 = .ok (.iload 4, 2) := by decide +kernel
theorem d_Model_done_291 : decode b_Model_done 291 = .ok (.iconst 1, 1) := by decide +kernel
theorem d_Model_done_292 : decode b_Model_done 292 = .ok (.isub, 1) := by decide +kernel
theorem d_Model_done_293 : decode b_Model_done 293 = .ok (.aload_n 0, 1) := by decide +kernel
theorem d_Model_done_294 : decode b_Model_done 294 = .ok (.getfield 23, 3) := by decide +kernel
theorem d_Model_done_297 : decode b_Model_done 297 = .ok (.iload 4, 2) := by decide +kernel
theorem d_Model_done_299 : decode b_Model_done 299 = .ok (.iconst 2, 1) := by decide +kernel
theorem d_Model_done_300 : decode b_Model_done 300 = .ok (.isub, 1) := by decide +kernel
theorem d_Model_done_301 : decode b_Model_done 301 = .ok (.iaload, 1) := by decide +kernel
theorem d_Model_done_302 : decode b_Model_done 302 = .ok (.iastore, 1) := by decide +kernel
theorem d_Model_done_303 : decode b_Model_done 303 = .ok (.aload_n 0, 1) := by decide +kernel
theorem d_Model_done_304 : decode b_Model_done 304 = .ok (.getfield 23, 3) := by decide +kernel
theorem d_Model_done_307 : decode b_Model_done 307 = .ok (.iload 4, 2) := by decide +kernel
theorem d_Model_done_309 : decode b_Model_done 309 = .ok (.iconst 2, 1) := by decide +kernel
theorem d_Model_done_310 : decode b_Model_done 310 = .ok (.isub, 1) := by decide +kernel
theorem d_Model_done_311 : decode b_Model_done 311 = .ok (.iload 8, 2) := by decide +kernel
theorem d_Model_done_313 : decode b_Model_done 313 = .ok (.iastore, 1) := by decide +kernel
theorem d_Model_done_314 : decode b_Model_done 314 = .ok (.goto 154, 3) := by decide +kernel
theorem d_Model_done_317 : decode b_Model_done 317 = .ok (.iinc 4 (-1), 3) := by decide +kernel
theorem d_Model_done_320 : decode b_Model_done 320 = .ok (.goto 148, 3) := by decide +kernel
theorem d_Model_done_323 : decode b_Model_done 323 = .ok (.iload 7, 2) := by decide +kernel
theorem d_Model_done_325 : decode b_Model_done 325 = .ok (.istore 5, 2) := by decide +kernel
theorem d_Model_done_327 : decode b_Model_done 327 = .ok (.goto 141, 3) := by decide +kernel
theorem d_Model_done_330 : decode b_Model_done 330 = .ok (.iinc 4 (-1), 3) := by decide +kernel
theorem d_Model_done_333 : decode b_Model_done 333 = .ok (.aload_n 0, 1) := by decide +kernel
theorem d_Model_done_334 : decode b_Model_done 334 = .ok (.getfield 23, 3) := by decide +kernel
theorem d_Model_done_337 : decode b_Model_done 337 = .ok (.iload 4, 2) := by decide +kernel
theorem d_Model_done_339 : decode b_Model_done 339 = .ok (.iaload, 1) := by decide +kernel
theorem d_Model_done_340 : decode b_Model_done 340 = .ok (.ifCond .ne 128, 3) := by decide +kernel
theorem d_Model_done_343 : decode b_Model_done 343 = .ok (.iload 7, 2) := by decide +kernel
theorem d_Model_done_345 : decode b_Model_done 345 = .ok (.istore 5, 2) := by decide +kernel
theorem d_Model_done_347 : decode b_Model_done 347 = .ok (.goto 121, 3) := by decide +kernel
theorem d_Model_done_350 : decode b_Model_done 350 = .ok (.aload_n 0, 1) := by decide +kernel
theorem d_Model_done_351 : decode b_Model_done 351 = .ok (.getfield 66, 3) := by decide +kernel
theorem d_Model_done_354 : decode b_Model_done 354 = .ok (.bipush 20, 2) := by decide +kernel
theorem d_Model_done_356 : decode b_Model_done 356 = .ok (.if_icmp .ne 5, 3) := by decide +kernel
theorem d_Model_done_359 : decode b_Model_done 359 = .ok (.iconst 2, 1) := by decide +kernel
theorem d_Model_done_360 : decode b_Model_done 360 = .ok (.ireturn, 1) := by decide +kernel
theorem d_Model_done_361 : decode b_Model_done 361 = .ok (.iinc 4 (-2), 3) := by decide +kernel
theorem d_Model_done_364 : decode b_Model_done 364 = .ok (.aload_n 0, 1) := by decide +kernel
theorem d_Model_done_365 : decode b_Model_done 365 = .ok (.getfield 29, 3) := by decide +kernel
theorem d_Model_done_368 : decode b_Model_done 368 = .ok (.aload_n 0, 1) := by decide +kernel
theorem d_Model_done_369 : decode b_Model_done 369 = .ok (.getfield 66, 3) := by decide +kernel
theorem d_Model_done_372 : decode b_Model_done 372 = .ok (.aload_n 0, 1) := by decide +kernel
theorem d_Model_done_373 : decode b_Model_done 373 = .ok (.getfield 23, 3) := by decide +kernel
theorem d_Model_done_376 : decode b_Model_done 376 = .ok (.iload 4, 2) := by decide +kernel
theorem d_Model_done_378 : decode b_Model_done 378 = .ok (.iaload, 1) := by decide +kernel
theorem d_Model_done_379 : decode b_Model_done 379 = .ok (.iastore, 1) := by decide +kernel
theorem d_Model_done_380 : decode b_Model_done 380 = .ok (.aload_n 0, 1) := by decide +kernel
theorem d_Model_done_381 : decode b_Model_done 381 = .ok (.getfield 32, 3) := by decide +kernel
theorem d_Model_done_384 : decode b_Model_done 384 = .ok (.aload_n 0, 1) := by decide +kernel
theorem d_Model_done_385 : decode b_Model_done 385 = .ok (.getfield 66, 3) := by decide +kernel
theorem d_Model_done_388 : decode b_Model_done 388 = .ok (.aload_n 0, 1) := by decide +kernel
theorem d_Model_done_389 : decode b_Model_done 389 = .ok (.getfield 23, 3) := by decide +kernel
theorem d_Model_done_392 : decode b_Model_done 392 = .ok (.iload 4, 2) := by decide +kernel
theorem d_Model_done_394 : decode b_Model_done 394 = .ok (.iconst 1, 1) := by decide +kernel
theorem d_Model_done_395 : decode b_Model_done 395 = .ok (.iadd, 1) := by decide +kernel
theorem d_Model_done_396 : decode b_Model_done 396 = .ok (.iaload, 1) := by decide +kernel
theorem d_Model_done_397 : decode b_Model_done 397 = .ok (.iastore, 1) := by decide +kernel
theorem d_Model_done_398 : decode b_Model_done 398 = .ok (.aload_n 0, 1) := by decide +kernel
theorem d_Model_done_399 : decode b_Model_done 399 = .ok (.dup, 1) := by decide +kernel
theorem d_Model_done_400 : decode b_Model_done 400 = .ok (.getfield 66, 3) := by decide +kernel
theorem d_Model_done_403 : decode b_Model_done 403 = .ok (.iconst 1, 1) := by decide +kernel
theorem d_Model_done_404 : decode b_Model_done 404 = .ok (.iadd, 1) := by decide +kernel
theorem d_Model_done_405 : decode b_Model_done 405 = .ok (.putfield 66, 3) := by decide +kernel
theorem d_Model_done_408 : decode b_Model_done 408 = .ok (.goto 60, 3) := by decide +kernel
theorem d_Model_done_411 : decode b_Model_done 411 = .ok (.aload_n 0, 1) := by decide +kernel
theorem d_Model_done_412 : decode b_Model_done 412 = .ok (.getfield 35, 3) := by decide +kernel
theorem d_Model_done_415 : decode b_Model_done 415 = .ok (.ifCond .eq 16, 3) := by decide +kernel
theorem d_Model_done_418 : decode b_Model_done 418 = .ok (.aload_n 0, 1) := by decide +kernel
theorem d_Model_done_419 : decode b_Model_done 419 = .ok (.aload_n 0, 1) := by decide +kernel
theorem d_Model_done_420 : decode b_Model_done 420 = .ok (.getfield 23, 3) := by decide +kernel
theorem d_Model_done_423 : decode b_Model_done 423 = .ok (.iload 4, 2) := by decide +kernel
theorem d_Model_done_425 : decode b_Model_done 425 = .ok (.iconst 1, 1) := by decide +kernel
theorem d_Model_done_426 : decode b_Model_done 426 = .ok (.isub, 1) := by decide +kernel
theorem d_Model_done_427 : decode b_Model_done 427 = .ok (.iaload, 1) := by decide +kernel
theorem d_Model_done_428 : decode b_Model_done 428 = .ok (.putfield 69, 3) := by decide +kernel
theorem d_Model_done_431 : decode b_Model_done 431 = .ok (.iconst 0, 1) := by decide +kernel
theorem d_Model_done_432 : decode b_Model_done 432 = .ok (.ireturn, 1) := by decide +kernel
theorem d_Model_done_433 : decode b_Model_done 433 = .ok (.iconst 1, 1) := by decide +kernel
theorem d_Model_done_434 : decode b_Model_done 434 = .ok (.ireturn, 1) := by decide +kernel
theorem d_Model_done_435 : decode b_Model_done 435 = .ok (.iinc 4 (-1), 3) := by decide +kernel
theorem d_Model_done_438 : decode b_Model_done 438 = .ok (.aload_n 0, 1) := by decide +kernel
theorem d_Model_done_439 : decode b_Model_done 439 = .ok (.getfield 23, 3) := by decide +kernel
theorem d_Model_done_442 : decode b_Model_done 442 = .ok (.iload 4, 2) := by decide +kernel
theorem d_Model_done_444 : decode b_Model_done 444 = .ok (.iconst 1, 1) := by decide +kernel
theorem d_Model_done_445 : decode b_Model_done 445 = .ok (.isub, 1) := by decide +kernel
theorem d_Model_done_446 : decode b_Model_done 446 = .ok (.iload 6, 2) := by decide +kernel
theorem d_Model_done_448 : decode b_Model_done 448 = .ok (.aload_n 0, 1) := by decide +kernel
theorem d_Model_done_449 : decode b_Model_done 449 = .ok (.getfield 23, 3) := by decide +kernel
theorem d_Model_done_452 : decode b_Model_done 452 = .ok (.iload 4, 2) := by decide +kernel
theorem d_Model_done_454 : decode b_Model_done 454 = .ok (.iconst 1, 1) := by decide +kernel
theorem d_Model_done_455 : decode b_Model_done 455 = .ok (.isub, 1) := by decide +kernel
theorem d_Model_done_456 : decode b_Model_done 456 = .ok (.iaload, 1) := by decide +kernel
theorem d_Model_done_457 : decode b_Model_done 457 = .ok (.aload_n 0, 1) := by decide +kernel
theorem d_Model_done_458 : decode b_Model_done 458 = .ok (.getfield 23, 3) := by decide +kernel
theorem d_Model_done_461 : decode b_Model_done 461 = .ok (.iload 4, 2) := by decide +kernel
theorem d_Model_done_463 : decode b_Model_done 463 = .ok (.iaload, 1) := by decide +kernel
theorem d_Model_done_464 : decode b_Model_done 464 = .ok (.invokestatic 72, 3) := by decide +kernel
theorem d_Model_done_467 : decode b_Model_done 467 = .ok (.iastore, 1) := by decide +kernel
theorem d_Model_done_468 : decode b_Model_done 468 = .ok (.goto (-439), 3) := by decide +kernel
theorem d_Model_done_471 : decode b_Model_done 471 = .ok (.iconst 2, 1) := by decide +kernel
theorem d_Model_done_472 : decode b_Model_done 472 = .ok (.ireturn, 1) := by decide +kernel
theorem d_Model_call_0 : decode b_Model_call 0 = .ok (.aload_n 0, 1) := by decide +kernel
theorem d_Model_call_1 : decode b_Model_call 1 = .ok (.invokevirtual 76, 3) := by decide +kernel
theorem d_Model_call_4 : decode b_Model_call 4 = .ok (.bipush (-2), 2) := by decide +kernel
theorem d_Model_call_6 : decode b_Model_call 6 = .ok (.if_icmp .eq 6, 3) := by decide +kernel
theorem d_Model_call_9 : decode b_Model_call 9 = .ok (.bipush (-2), 2) := by decide +kernel
theorem d_Model_call_11 : decode b_Model_call 11 = .ok (.ireturn, 1) := by decide +kernel
theorem d_Model_call_12 : decode b_Model_call 12 = .ok (.aload_n 0, 1) := by decide +kernel
theorem d_Model_call_13 : decode b_Model_call 13 = .ok (.iconst 0, 1) := by decide +kernel
theorem d_Model_call_14 : decode b_Model_call 14 = .ok (.putfield 66, 3) := by decide +kernel
theorem d_Model_call_17 : decode b_Model_call 17 = .ok (.aload_n 0, 1) := by decide +kernel
theorem d_Model_call_18 : decode b_Model_call 18 = .ok (.iconst 0, 1) := by decide +kernel
theorem d_Model_call_19 : decode b_Model_call 19 = .ok (.putfield 63, 3) := by decide +kernel
theorem d_Model_call_22 : decode b_Model_call 22 = .ok (.aload_n 0, 1) := by decide +kernel
theorem d_Model_call_23 : decode b_Model_call 23 = .ok (.iconst 0, 1) := by decide +kernel
theorem d_Model_call_24 : decode b_Model_call 24 = .ok (.putfield 69, 3) := by decide +kernel
theorem d_Model_call_27 : decode b_Model_call 27 = .ok (.aload_n 0, 1) := by decide +kernel
theorem d_Model_call_28 : decode b_Model_call 28 = .ok (.iload_n 1, 1) := by decide +kernel
theorem d_Model_call_29 : decode b_Model_call 29 = .ok (.iload_n 2, 1) := by decide +kernel
theorem d_Model_call_30 : decode b_Model_call 30 = .ok (.iload_n 3, 1) := by decide +kernel
theorem d_Model_call_31 : decode b_Model_call 31 = .ok (.invokevirtual 80, 3) := by decide +kernel
theorem d_Model_call_34 : decode b_Model_call 34 = .ok (.istore 4, 2) := by decide +kernel
theorem d_Model_call_36 : decode b_Model_call 36 = .ok (.iload 4, 2) := by decide +kernel
theorem d_Model_call_38 : decode b_Model_call 38 = .ok (.iconst 2, 1) := by decide +kernel
theorem d_Model_call_39 : decode b_Model_call 39 = .ok (.if_icmp .ne 8, 3) := by decide +kernel
theorem d_Model_call_42 : decode b_Model_call 42 = .ok (.aload_n 0, 1) := by decide +kernel
theorem d_Model_call_43 : decode b_Model_call 43 = .ok (.iconst 0, 1) := by decide +kernel
theorem d_Model_call_44 : decode b_Model_call 44 = .ok (.putfield 66, 3) := by decide +kernel
theorem d_Model_call_47 : decode b_Model_call 47 = .ok (.iload 4, 2) := by decide +kernel
theorem d_Model_call_49 : decode b_Model_call 49 = .ok (.ireturn, 1) := by decide +kernel
theorem d_Model_result_0 : decode b_Model_result 0 = .ok (.aload_n 0, 1) := by decide +kernel
theorem d_Model_result_1 : decode b_Model_result 1 = .ok (.getfield 69, 3) := by decide +kernel
theorem d_Model_result_4 : decode b_Model_result 4 = .ok (.ireturn, 1) := by decide +kernel
theorem d_Model_steps_0 : decode b_Model_steps 0 = .ok (.aload_n 0, 1) := by decide +kernel
theorem d_Model_steps_1 : decode b_Model_steps 1 = .ok (.getfield 63, 3) := by decide +kernel
theorem d_Model_steps_4 : decode b_Model_steps 4 = .ok (.ireturn, 1) := by decide +kernel
theorem d_Model_pairs_0 : decode b_Model_pairs 0 = .ok (.aload_n 0, 1) := by decide +kernel
theorem d_Model_pairs_1 : decode b_Model_pairs 1 = .ok (.getfield 66, 3) := by decide +kernel
theorem d_Model_pairs_4 : decode b_Model_pairs 4 = .ok (.ireturn, 1) := by decide +kernel
theorem d_Model_pair_0 : decode b_Model_pair 0 = .ok (.iload_n 1, 1) := by decide +kernel
theorem d_Model_pair_1 : decode b_Model_pair 1 = .ok (.ifCond .lt 20, 3) := by decide +kernel
theorem d_Model_pair_4 : decode b_Model_pair 4 = .ok (.iload_n 1, 1) := by decide +kernel
theorem d_Model_pair_5 : decode b_Model_pair 5 = .ok (.aload_n 0, 1) := by decide +kernel
theorem d_Model_pair_6 : decode b_Model_pair 6 = .ok (.getfield 66, 3) := by decide +kernel
theorem d_Model_pair_9 : decode b_Model_pair 9 = .ok (.if_icmp .ge 12, 3) := by decide +kernel
theorem d_Model_pair_12 : decode b_Model_pair 12 = .ok (.iload_n 2, 1) := by decide +kernel
theorem d_Model_pair_13 : decode b_Model_pair 13 = .ok (.ifCond .lt 8, 3) := by decide +kernel
theorem d_Model_pair_16 : decode b_Model_pair 16 = .ok (.iload_n 2, 1) := by decide +kernel
theorem d_Model_pair_17 : decode b_Model_pair 17 = .ok (.iconst 1, 1) := by decide +kernel
theorem d_Model_pair_18 : decode b_Model_pair 18 = .ok (.if_icmp .le 7, 3) := by decide +kernel
theorem d_Model_pair_21 : decode b_Model_pair 21 = .ok (.ldc2_w 83, 3) := by decide +kernel
theorem d_Model_pair_24 : decode b_Model_pair 24 = .ok (.lreturn, 1) := by decide +kernel
theorem d_Model_pair_25 : decode b_Model_pair 25 = .ok (.iload_n 2, 1) := by decide +kernel
theorem d_Model_pair_26 : decode b_Model_pair 26 = .ok (.ifCond .ne 13, 3) := by decide +kernel
theorem d_Model_pair_29 : decode b_Model_pair 29 = .ok (.aload_n 0, 1) := by decide +kernel
theorem d_Model_pair_30 : decode b_Model_pair 30 = .ok (.getfield 29, 3) := by decide +kernel
theorem d_Model_pair_33 : decode b_Model_pair 33 = .ok (.iload_n 1, 1) := by decide +kernel
theorem d_Model_pair_34 : decode b_Model_pair 34 = .ok (.iaload, 1) := by decide +kernel
theorem d_Model_pair_35 : decode b_Model_pair 35 = .ok (.i2l, 1) := by decide +kernel
theorem d_Model_pair_36 : decode b_Model_pair 36 = .ok (.goto 10, 3) := by decide +kernel
theorem d_Model_pair_39 : decode b_Model_pair 39 = .ok (.aload_n 0, 1) := by decide +kernel
theorem d_Model_pair_40 : decode b_Model_pair 40 = .ok (.getfield 32, 3) := by decide +kernel
theorem d_Model_pair_43 : decode b_Model_pair 43 = .ok (.iload_n 1, 1) := by decide +kernel
theorem d_Model_pair_44 : decode b_Model_pair 44 = .ok (.iaload, 1) := by decide +kernel
theorem d_Model_pair_45 : decode b_Model_pair 45 = .ok (.i2l, 1) := by decide +kernel
theorem d_Model_pair_46 : decode b_Model_pair 46 = .ok (.lreturn, 1) := by decide +kernel
end
section
set_option maxHeartbeats 4000000 in
set_option maxRecDepth 100000 in
theorem c_Model_isBad (l : Launch) (D : va_G) (cI cZ : ClassId) (mo mp mq mr mw mt ml mk mv : Nat) (kd : Int32) (n : Nat) (fo fn fR fW fs fl fk fv : Nat → Int32) (em sp rs : Int32) (a : Nat) (ha : a < 64) : Met l y_Model_isBad w_Model_isBad (rmk 0) (va_Pc [.ref mo, .int (nI a)] (PY D cI cZ [(mo, .inr (4, [.int kd, .ref mp, .ref mq, .int (nI n), .ref mr, .ref mw, .ref mt, .ref ml, .ref mk, .ref mv, .int em, .int sp, .int rs])), (mp, .inl (cI, 64, .inl fo)), (mq, .inl (cI, 64, .inl fn)), (mr, .inl (cI, 576, .inl fR)), (mw, .inl (cZ, 64, .inl fW)), (mt, .inl (cI, 8, .inl fs)), (ml, .inl (cI, 4, .inl fl)), (mk, .inl (cI, 20, .inl fk)), (mv, .inl (cI, 20, .inl fv))])) (vp_Si (fun r => r = v_bad kd (nI n) (fo a) (fn a))) 0 0 (fun _ => False) := by
  refine Met.ofW (cc := b_Model_isBad) (maxL := 4) (ret := (some .boolean)) (by decide) rfl ?_
  intro p e s m args below meth c s₁ B hml hv
  obtain ⟨rfl, hP, hE⟩ := hv
  have hx := B.exec
  have hb := B.bytes
  have hr := B.returns
  have hts : ∀ w ∈ gW, w.before _ s = true := fun w h => atoms_spec (ws := w_Model_isBad) B.pre w (List.mem_cons_of_mem _ h)
  have hown : s.vm.findClass R_Model = some m.cls := findClass_of_methodNamed B.named
  have hlocks := B.notSynchronized
  have hS : va_S (fun _ => False) s.heap s.heap [] := va_S.rf
  have hP : va_P D classes [(mo, .inr (4, [.int kd, .ref mp, .ref mq, .int (nI n), .ref mr, .ref mw, .ref mt, .ref ml, .ref mk, .ref mv, .int em, .int sp, .int rs])), (mp, .inl (cI, 64, .inl fo)), (mq, .inl (cI, 64, .inl fn)), (mr, .inl (cI, 576, .inl fR)), (mw, .inl (cZ, 64, .inl fW)), (mt, .inl (cI, 8, .inl fs)), (ml, .inl (cI, 4, .inl fl)), (mk, .inl (cI, 20, .inl fk)), (mv, .inl (cI, 20, .inl fv))] s.heap := hP
  have hl := lv_entry ([.ref mo, .int (nI a)]) (n := 4) (Nat.le_of_ble_eq_true rfl)
  rw [lg_entry_eq]
  generalize (lg_sl ([.ref mo, .int (nI a)]) ++ List.replicate (4 - (lg_sl ([.ref mo, .int (nI a)])).length) Slot.unset).toArray = ls at hl ⊢
  have hl : lv_has ls 4 [(0, .ref mo), (1, .int (nI a))] := hl
  refine lv_aload_n hx hb d_Model_isBad_0 rfl (lv_at hl 0 rfl) ?_
  refine va_get (D := D) (ci := 4) (v := .ref mp) (C := R_Model) (T := F_Model) (N := 13) hx hb hts in_Model hown hE.1 hP 0 rfl rfl 1 (by decide) (hts _ k_317) (fun _ h9 => h9) rfl d_Model_isBad_1 ?_
  refine lv_iload_n hx hb d_Model_isBad_4 rfl (lv_at hl 1 rfl) ?_
  refine va_iald hx hb hE.1 hP 1 0 rfl rfl (vp_in_nI (by omega) (by decide)) d_Model_isBad_5 ?_
  refine lv_eqi (y := fo a) (congrArg fo (nI_clamp (show a < 2 ^ 31 by omega))) ?_
  refine lv_istore_n hx hb d_Model_isBad_6 rfl hl (by decide) rfl (fun ls hl => ?_)
  have hl : lv_has ls 4 [(2, .int (fo a)), (0, .ref mo), (1, .int (nI a))] := hl
  refine lv_aload_n hx hb d_Model_isBad_7 rfl (lv_at hl 1 rfl) ?_
  refine va_get (D := D) (ci := 4) (v := .ref mq) (C := R_Model) (T := F_Model) (N := 13) hx hb hts in_Model hown hE.1 hP 0 rfl rfl 2 (by decide) (hts _ k_318) (fun _ h9 => h9) rfl d_Model_isBad_8 ?_
  refine lv_iload_n hx hb d_Model_isBad_11 rfl (lv_at hl 2 rfl) ?_
  refine va_iald hx hb hE.1 hP 2 0 rfl rfl (vp_in_nI (by omega) (by decide)) d_Model_isBad_12 ?_
  refine lv_eqi (y := fn a) (congrArg fn (nI_clamp (show a < 2 ^ 31 by omega))) ?_
  refine lv_istore_n hx hb d_Model_isBad_13 rfl hl (by decide) rfl (fun ls hl => ?_)
  have hl : lv_has ls 4 [(3, .int (fn a)), (2, .int (fo a)), (0, .ref mo), (1, .int (nI a))] := hl
  refine lv_iload_n hx hb d_Model_isBad_14 rfl (lv_at hl 1 rfl) ?_
  refine lv_if_lt (tgt := 51) hx hb d_Model_isBad_15 (by decide) (fun h1 => ?_) (fun h1 => ?_)
  · -- (fo a) < 0
    refine lv_iconst (v := 1) hx hb d_Model_isBad_51 (by decide) ?_
    refine W.zret hx hb hr (by decide) (fun t ht hW => ⟨_, rfl, ?_, ht⟩) (fun q h => by cases h) d_Model_isBad_52
    show 1 = v_bad kd (nI n) (fo a) (fn a)
    first | (simp only [v_bad, v_b18, v_b1, v_b2, v_b14, h1, if_true, if_false, eq_self, not_true_eq_false, not_false_eq_true, ne_eq]; done) | (simp only [v_bad, v_b18, v_b1, v_b2, v_b14, h1, if_true, if_false, eq_self, not_true_eq_false, not_false_eq_true, ne_eq]; rfl) | (simp [v_bad, v_b18, v_b1, v_b2, v_b14, h1]; done)
  · -- ¬ (fo a) < 0
    refine lv_iload_n hx hb d_Model_isBad_18 rfl (lv_at hl 1 rfl) ?_
    refine lv_bipush (v := 18) hx hb d_Model_isBad_19 (by decide) ?_
    refine lv_icmp_gt (tgt := 51) hx hb d_Model_isBad_21 (by decide) (fun h2 => ?_) (fun h2 => ?_)
    · -- 18 < (fo a)
      refine lv_iconst (v := 1) hx hb d_Model_isBad_51 (by decide) ?_
      refine W.zret hx hb hr (by decide) (fun t ht hW => ⟨_, rfl, ?_, ht⟩) (fun q h => by cases h) d_Model_isBad_52
      show 1 = v_bad kd (nI n) (fo a) (fn a)
      first | (simp only [v_bad, v_b18, v_b1, v_b2, v_b14, h1, h2, if_true, if_false, eq_self, not_true_eq_false, not_false_eq_true, ne_eq]; done) | (simp only [v_bad, v_b18, v_b1, v_b2, v_b14, h1, h2, if_true, if_false, eq_self, not_true_eq_false, not_false_eq_true, ne_eq]; rfl) | (simp [v_bad, v_b18, v_b1, v_b2, v_b14, h1, h2]; done)
    · -- ¬ 18 < (fo a)
      refine lv_iload_n hx hb d_Model_isBad_24 rfl (lv_at hl 1 rfl) ?_
      refine lv_bipush (v := 16) hx hb d_Model_isBad_25 (by decide) ?_
      refine lv_icmp_ne (tgt := 37) hx hb d_Model_isBad_27 (by decide) (fun h3 => ?_) (fun h3 => ?_)
      · -- ¬ (fo a) = 16
        refine lv_iload_n hx hb d_Model_isBad_37 rfl (lv_at hl 1 rfl) ?_
        refine lv_bipush (v := 18) hx hb d_Model_isBad_38 (by decide) ?_
        refine lv_icmp_ne (tgt := 53) hx hb d_Model_isBad_40 (by decide) (fun h4 => ?_) (fun h4 => ?_)
        · -- ¬ (fo a) = 18
          refine lv_iload_n hx hb d_Model_isBad_53 rfl (lv_at hl 1 rfl) ?_
          refine lv_iconst (v := 1) hx hb d_Model_isBad_54 (by decide) ?_
          refine lv_icmp_ne (tgt := 93) hx hb d_Model_isBad_55 (by decide) (fun h5 => ?_) (fun h5 => ?_)
          · -- ¬ (fo a) = 1
            refine lv_iload_n hx hb d_Model_isBad_93 rfl (lv_at hl 1 rfl) ?_
            refine lv_iconst (v := 2) hx hb d_Model_isBad_94 (by decide) ?_
            refine lv_icmp_eq (tgt := 103) hx hb d_Model_isBad_95 (by decide) (fun h6 => ?_) (fun h6 => ?_)
            · -- (fo a) = 2
              refine lv_iload_n hx hb d_Model_isBad_103 rfl (lv_at hl 0 rfl) ?_
              refine lv_if_lt (tgt := 112) hx hb d_Model_isBad_104 (by decide) (fun h7 => ?_) (fun h7 => ?_)
              · -- (fn a) < 0
                refine lv_iconst (v := 1) hx hb d_Model_isBad_112 (by decide) ?_
                refine lv_goto (tgt := 117) hx hb d_Model_isBad_113 (by decide) ?_
                refine W.zret hx hb hr (by decide) (fun t ht hW => ⟨_, rfl, ?_, ht⟩) (fun q h => by cases h) d_Model_isBad_117
                show 1 = v_bad kd (nI n) (fo a) (fn a)
                first | (simp only [v_bad, v_b18, v_b1, v_b2, v_b14, h1, h2, h3, h4, h5, h6, h7, if_true, if_false, eq_self, not_true_eq_false, not_false_eq_true, ne_eq]; done) | (simp only [v_bad, v_b18, v_b1, v_b2, v_b14, h1, h2, h3, h4, h5, h6, h7, if_true, if_false, eq_self, not_true_eq_false, not_false_eq_true, ne_eq]; rfl) | (simp [v_bad, v_b18, v_b1, v_b2, v_b14, h1, h2, h3, h4, h5, h6, h7]; done)
              · -- ¬ (fn a) < 0
                refine lv_iload_n hx hb d_Model_isBad_107 rfl (lv_at hl 0 rfl) ?_
                refine lv_iconst (v := 3) hx hb d_Model_isBad_108 (by decide) ?_
                refine lv_icmp_le (tgt := 116) hx hb d_Model_isBad_109 (by decide) (fun h8 => ?_) (fun h8 => ?_)
                · -- (fn a) ≤ 3
                  refine lv_iconst (v := 0) hx hb d_Model_isBad_116 (by decide) ?_
                  refine W.zret hx hb hr (by decide) (fun t ht hW => ⟨_, rfl, ?_, ht⟩) (fun q h => by cases h) d_Model_isBad_117
                  show 0 = v_bad kd (nI n) (fo a) (fn a)
                  first | (simp only [v_bad, v_b18, v_b1, v_b2, v_b14, h1, h2, h3, h4, h5, h6, h7, h8, if_true, if_false, eq_self, not_true_eq_false, not_false_eq_true, ne_eq]; done) | (simp only [v_bad, v_b18, v_b1, v_b2, v_b14, h1, h2, h3, h4, h5, h6, h7, h8, if_true, if_false, eq_self, not_true_eq_false, not_false_eq_true, ne_eq]; rfl) | (simp [v_bad, v_b18, v_b1, v_b2, v_b14, h1, h2, h3, h4, h5, h6, h7, h8]; done)
                · -- ¬ (fn a) ≤ 3
                  refine lv_iconst (v := 1) hx hb d_Model_isBad_112 (by decide) ?_
                  refine lv_goto (tgt := 117) hx hb d_Model_isBad_113 (by decide) ?_
                  refine W.zret hx hb hr (by decide) (fun t ht hW => ⟨_, rfl, ?_, ht⟩) (fun q h => by cases h) d_Model_isBad_117
                  show 1 = v_bad kd (nI n) (fo a) (fn a)
                  first | (simp only [v_bad, v_b18, v_b1, v_b2, v_b14, h1, h2, h3, h4, h5, h6, h7, h8, if_true, if_false, eq_self, not_true_eq_false, not_false_eq_true, ne_eq]; done) | (simp only [v_bad, v_b18, v_b1, v_b2, v_b14, h1, h2, h3, h4, h5, h6, h7, h8, if_true, if_false, eq_self, not_true_eq_false, not_false_eq_true, ne_eq]; rfl) | (simp [v_bad, v_b18, v_b1, v_b2, v_b14, h1, h2, h3, h4, h5, h6, h7, h8]; done)
            · -- ¬ (fo a) = 2
              refine lv_iload_n hx hb d_Model_isBad_98 rfl (lv_at hl 1 rfl) ?_
              refine lv_iconst (v := 3) hx hb d_Model_isBad_99 (by decide) ?_
              refine lv_icmp_ne (tgt := 118) hx hb d_Model_isBad_100 (by decide) (fun h9 => ?_) (fun h9 => ?_)
              · -- ¬ (fo a) = 3
                refine lv_iload_n hx hb d_Model_isBad_118 rfl (lv_at hl 1 rfl) ?_
                refine lv_bipush (v := 14) hx hb d_Model_isBad_119 (by decide) ?_
                refine lv_icmp_eq (tgt := 130) hx hb d_Model_isBad_121 (by decide) (fun h10 => ?_) (fun h10 => ?_)
                · -- (fo a) = 14
                  refine lv_iload_n hx hb d_Model_isBad_130 rfl (lv_at hl 0 rfl) ?_
                  refine lv_if_lt (tgt := 142) hx hb d_Model_isBad_131 (by decide) (fun h11 => ?_) (fun h11 => ?_)
                  · -- (fn a) < 0
                    refine lv_iconst (v := 1) hx hb d_Model_isBad_142 (by decide) ?_
                    refine lv_goto (tgt := 147) hx hb d_Model_isBad_143 (by decide) ?_
                    refine W.zret hx hb hr (by decide) (fun t ht hW => ⟨_, rfl, ?_, ht⟩) (fun q h => by cases h) d_Model_isBad_147
                    show 1 = v_bad kd (nI n) (fo a) (fn a)
                    first | (simp only [v_bad, v_b18, v_b1, v_b2, v_b14, h1, h2, h3, h4, h5, h6, h9, h10, h11, if_true, if_false, eq_self, not_true_eq_false, not_false_eq_true, ne_eq]; done) | (simp only [v_bad, v_b18, v_b1, v_b2, v_b14, h1, h2, h3, h4, h5, h6, h9, h10, h11, if_true, if_false, eq_self, not_true_eq_false, not_false_eq_true, ne_eq]; rfl) | (simp [v_bad, v_b18, v_b1, v_b2, v_b14, h1, h2, h3, h4, h5, h6, h9, h10, h11]; done)
                  · -- ¬ (fn a) < 0
                    refine lv_iload_n hx hb d_Model_isBad_134 rfl (lv_at hl 0 rfl) ?_
                    refine lv_aload_n hx hb d_Model_isBad_135 rfl (lv_at hl 2 rfl) ?_
                    refine va_get (D := D) (ci := 4) (v := .int (nI n)) (C := R_Model) (T := F_Model) (N := 13) hx hb hts in_Model hown hE.1 hP 0 rfl rfl 3 (by decide) (hts _ k_319) (fun _ h9 => h9) rfl d_Model_isBad_136 ?_
                    refine lv_icmp_lt (tgt := 146) hx hb d_Model_isBad_139 (by decide) (fun h12 => ?_) (fun h12 => ?_)
                    · -- (fn a) < (nI n)
                      refine lv_iconst (v := 0) hx hb d_Model_isBad_146 (by decide) ?_
                      refine W.zret hx hb hr (by decide) (fun t ht hW => ⟨_, rfl, ?_, ht⟩) (fun q h => by cases h) d_Model_isBad_147
                      show 0 = v_bad kd (nI n) (fo a) (fn a)
                      first | (simp only [v_bad, v_b18, v_b1, v_b2, v_b14, h1, h2, h3, h4, h5, h6, h9, h10, h11, h12, if_true, if_false, eq_self, not_true_eq_false, not_false_eq_true, ne_eq]; done) | (simp only [v_bad, v_b18, v_b1, v_b2, v_b14, h1, h2, h3, h4, h5, h6, h9, h10, h11, h12, if_true, if_false, eq_self, not_true_eq_false, not_false_eq_true, ne_eq]; rfl) | (simp [v_bad, v_b18, v_b1, v_b2, v_b14, h1, h2, h3, h4, h5, h6, h9, h10, h11, h12]; done)
                    · -- ¬ (fn a) < (nI n)
                      refine lv_iconst (v := 1) hx hb d_Model_isBad_142 (by decide) ?_
                      refine lv_goto (tgt := 147) hx hb d_Model_isBad_143 (by decide) ?_
                      refine W.zret hx hb hr (by decide) (fun t ht hW => ⟨_, rfl, ?_, ht⟩) (fun q h => by cases h) d_Model_isBad_147
                      show 1 = v_bad kd (nI n) (fo a) (fn a)
                      first | (simp only [v_bad, v_b18, v_b1, v_b2, v_b14, h1, h2, h3, h4, h5, h6, h9, h10, h11, h12, if_true, if_false, eq_self, not_true_eq_false, not_false_eq_true, ne_eq]; done) | (simp only [v_bad, v_b18, v_b1, v_b2, v_b14, h1, h2, h3, h4, h5, h6, h9, h10, h11, h12, if_true, if_false, eq_self, not_true_eq_false, not_false_eq_true, ne_eq]; rfl) | (simp [v_bad, v_b18, v_b1, v_b2, v_b14, h1, h2, h3, h4, h5, h6, h9, h10, h11, h12]; done)
                · -- ¬ (fo a) = 14
                  refine lv_iload_n hx hb d_Model_isBad_124 rfl (lv_at hl 1 rfl) ?_
                  refine lv_bipush (v := 15) hx hb d_Model_isBad_125 (by decide) ?_
                  refine lv_icmp_ne (tgt := 146) hx hb d_Model_isBad_127 (by decide) (fun h13 => ?_) (fun h13 => ?_)
                  · -- ¬ (fo a) = 15
                    refine lv_iconst (v := 0) hx hb d_Model_isBad_146 (by decide) ?_
                    refine W.zret hx hb hr (by decide) (fun t ht hW => ⟨_, rfl, ?_, ht⟩) (fun q h => by cases h) d_Model_isBad_147
                    show 0 = v_bad kd (nI n) (fo a) (fn a)
                    first | (simp only [v_bad, v_b18, v_b1, v_b2, v_b14, h1, h2, h3, h4, h5, h6, h9, h10, h13, if_true, if_false, eq_self, not_true_eq_false, not_false_eq_true, ne_eq]; done) | (simp only [v_bad, v_b18, v_b1, v_b2, v_b14, h1, h2, h3, h4, h5, h6, h9, h10, h13, if_true, if_false, eq_self, not_true_eq_false, not_false_eq_true, ne_eq]; rfl) | (simp [v_bad, v_b18, v_b1, v_b2, v_b14, h1, h2, h3, h4, h5, h6, h9, h10, h13]; done)
                  · -- (fo a) = 15
                    refine lv_iload_n hx hb d_Model_isBad_130 rfl (lv_at hl 0 rfl) ?_
                    refine lv_if_lt (tgt := 142) hx hb d_Model_isBad_131 (by decide) (fun h14 => ?_) (fun h14 => ?_)
                    · -- (fn a) < 0
                      refine lv_iconst (v := 1) hx hb d_Model_isBad_142 (by decide) ?_
                      refine lv_goto (tgt := 147) hx hb d_Model_isBad_143 (by decide) ?_
                      refine W.zret hx hb hr (by decide) (fun t ht hW => ⟨_, rfl, ?_, ht⟩) (fun q h => by cases h) d_Model_isBad_147
                      show 1 = v_bad kd (nI n) (fo a) (fn a)
                      first | (simp only [v_bad, v_b18, v_b1, v_b2, v_b14, h1, h2, h3, h4, h5, h6, h9, h10, h13, h14, if_true, if_false, eq_self, not_true_eq_false, not_false_eq_true, ne_eq]; done) | (simp only [v_bad, v_b18, v_b1, v_b2, v_b14, h1, h2, h3, h4, h5, h6, h9, h10, h13, h14, if_true, if_false, eq_self, not_true_eq_false, not_false_eq_true, ne_eq]; rfl) | (simp [v_bad, v_b18, v_b1, v_b2, v_b14, h1, h2, h3, h4, h5, h6, h9, h10, h13, h14]; done)
                    · -- ¬ (fn a) < 0
                      refine lv_iload_n hx hb d_Model_isBad_134 rfl (lv_at hl 0 rfl) ?_
                      refine lv_aload_n hx hb d_Model_isBad_135 rfl (lv_at hl 2 rfl) ?_
                      refine va_get (D := D) (ci := 4) (v := .int (nI n)) (C := R_Model) (T := F_Model) (N := 13) hx hb hts in_Model hown hE.1 hP 0 rfl rfl 3 (by decide) (hts _ k_319) (fun _ h9 => h9) rfl d_Model_isBad_136 ?_
                      refine lv_icmp_lt (tgt := 146) hx hb d_Model_isBad_139 (by decide) (fun h15 => ?_) (fun h15 => ?_)
                      · -- (fn a) < (nI n)
                        refine lv_iconst (v := 0) hx hb d_Model_isBad_146 (by decide) ?_
                        refine W.zret hx hb hr (by decide) (fun t ht hW => ⟨_, rfl, ?_, ht⟩) (fun q h => by cases h) d_Model_isBad_147
                        show 0 = v_bad kd (nI n) (fo a) (fn a)
                        first | (simp only [v_bad, v_b18, v_b1, v_b2, v_b14, h1, h2, h3, h4, h5, h6, h9, h10, h13, h14, h15, if_true, if_false, eq_self, not_true_eq_false, not_false_eq_true, ne_eq]; done) | (simp only [v_bad, v_b18, v_b1, v_b2, v_b14, h1, h2, h3, h4, h5, h6, h9, h10, h13, h14, h15, if_true, if_false, eq_self, not_true_eq_false, not_false_eq_true, ne_eq]; rfl) | (simp [v_bad, v_b18, v_b1, v_b2, v_b14, h1, h2, h3, h4, h5, h6, h9, h10, h13, h14, h15]; done)
                      · -- ¬ (fn a) < (nI n)
                        refine lv_iconst (v := 1) hx hb d_Model_isBad_142 (by decide) ?_
                        refine lv_goto (tgt := 147) hx hb d_Model_isBad_143 (by decide) ?_
                        refine W.zret hx hb hr (by decide) (fun t ht hW => ⟨_, rfl, ?_, ht⟩) (fun q h => by cases h) d_Model_isBad_147
                        show 1 = v_bad kd (nI n) (fo a) (fn a)
                        first | (simp only [v_bad, v_b18, v_b1, v_b2, v_b14, h1, h2, h3, h4, h5, h6, h9, h10, h13, h14, h15, if_true, if_false, eq_self, not_true_eq_false, not_false_eq_true, ne_eq]; done) | (simp only [v_bad, v_b18, v_b1, v_b2, v_b14, h1, h2, h3, h4, h5, h6, h9, h10, h13, h14, h15, if_true, if_false, eq_self, not_true_eq_false, not_false_eq_true, ne_eq]; rfl) | (simp [v_bad, v_b18, v_b1, v_b2, v_b14, h1, h2, h3, h4, h5, h6, h9, h10, h13, h14, h15]; done)
              · -- (fo a) = 3
                refine lv_iload_n hx hb d_Model_isBad_103 rfl (lv_at hl 0 rfl) ?_
                refine lv_if_lt (tgt := 112) hx hb d_Model_isBad_104 (by decide) (fun h16 => ?_) (fun h16 => ?_)
                · -- (fn a) < 0
                  refine lv_iconst (v := 1) hx hb d_Model_isBad_112 (by decide) ?_
                  refine lv_goto (tgt := 117) hx hb d_Model_isBad_113 (by decide) ?_
                  refine W.zret hx hb hr (by decide) (fun t ht hW => ⟨_, rfl, ?_, ht⟩) (fun q h => by cases h) d_Model_isBad_117
                  show 1 = v_bad kd (nI n) (fo a) (fn a)
                  first | (simp only [v_bad, v_b18, v_b1, v_b2, v_b14, h1, h2, h3, h4, h5, h6, h9, h16, if_true, if_false, eq_self, not_true_eq_false, not_false_eq_true, ne_eq]; done) | (simp only [v_bad, v_b18, v_b1, v_b2, v_b14, h1, h2, h3, h4, h5, h6, h9, h16, if_true, if_false, eq_self, not_true_eq_false, not_false_eq_true, ne_eq]; rfl) | (simp [v_bad, v_b18, v_b1, v_b2, v_b14, h1, h2, h3, h4, h5, h6, h9, h16]; done)
                · -- ¬ (fn a) < 0
                  refine lv_iload_n hx hb d_Model_isBad_107 rfl (lv_at hl 0 rfl) ?_
                  refine lv_iconst (v := 3) hx hb d_Model_isBad_108 (by decide) ?_
                  refine lv_icmp_le (tgt := 116) hx hb d_Model_isBad_109 (by decide) (fun h17 => ?_) (fun h17 => ?_)
                  · -- (fn a) ≤ 3
                    refine lv_iconst (v := 0) hx hb d_Model_isBad_116 (by decide) ?_
                    refine W.zret hx hb hr (by decide) (fun t ht hW => ⟨_, rfl, ?_, ht⟩) (fun q h => by cases h) d_Model_isBad_117
                    show 0 = v_bad kd (nI n) (fo a) (fn a)
                    first | (simp only [v_bad, v_b18, v_b1, v_b2, v_b14, h1, h2, h3, h4, h5, h6, h9, h16, h17, if_true, if_false, eq_self, not_true_eq_false, not_false_eq_true, ne_eq]; done) | (simp only [v_bad, v_b18, v_b1, v_b2, v_b14, h1, h2, h3, h4, h5, h6, h9, h16, h17, if_true, if_false, eq_self, not_true_eq_false, not_false_eq_true, ne_eq]; rfl) | (simp [v_bad, v_b18, v_b1, v_b2, v_b14, h1, h2, h3, h4, h5, h6, h9, h16, h17]; done)
                  · -- ¬ (fn a) ≤ 3
                    refine lv_iconst (v := 1) hx hb d_Model_isBad_112 (by decide) ?_
                    refine lv_goto (tgt := 117) hx hb d_Model_isBad_113 (by decide) ?_
                    refine W.zret hx hb hr (by decide) (fun t ht hW => ⟨_, rfl, ?_, ht⟩) (fun q h => by cases h) d_Model_isBad_117
                    show 1 = v_bad kd (nI n) (fo a) (fn a)
                    first | (simp only [v_bad, v_b18, v_b1, v_b2, v_b14, h1, h2, h3, h4, h5, h6, h9, h16, h17, if_true, if_false, eq_self, not_true_eq_false, not_false_eq_true, ne_eq]; done) | (simp only [v_bad, v_b18, v_b1, v_b2, v_b14, h1, h2, h3, h4, h5, h6, h9, h16, h17, if_true, if_false, eq_self, not_true_eq_false, not_false_eq_true, ne_eq]; rfl) | (simp [v_bad, v_b18, v_b1, v_b2, v_b14, h1, h2, h3, h4, h5, h6, h9, h16, h17]; done)
          · -- (fo a) = 1
            refine lv_iload_n hx hb d_Model_isBad_58 rfl (lv_at hl 0 rfl) ?_
            refine lv_if_lt (tgt := 87) hx hb d_Model_isBad_59 (by decide) (fun h18 => ?_) (fun h18 => ?_)
            · -- (fn a) < 0
              refine lv_iconst (v := 1) hx hb d_Model_isBad_87 (by decide) ?_
              refine lv_goto (tgt := 92) hx hb d_Model_isBad_88 (by decide) ?_
              refine W.zret hx hb hr (by decide) (fun t ht hW => ⟨_, rfl, ?_, ht⟩) (fun q h => by cases h) d_Model_isBad_92
              show 1 = v_bad kd (nI n) (fo a) (fn a)
              first | (simp only [v_bad, v_b18, v_b1, v_b2, v_b14, h1, h2, h3, h4, h5, h18, if_true, if_false, eq_self, not_true_eq_false, not_false_eq_true, ne_eq]; done) | (simp only [v_bad, v_b18, v_b1, v_b2, v_b14, h1, h2, h3, h4, h5, h18, if_true, if_false, eq_self, not_true_eq_false, not_false_eq_true, ne_eq]; rfl) | (simp [v_bad, v_b18, v_b1, v_b2, v_b14, h1, h2, h3, h4, h5, h18]; done)
            · -- ¬ (fn a) < 0
              refine lv_iload_n hx hb d_Model_isBad_62 rfl (lv_at hl 0 rfl) ?_
              refine lv_iconst (v := 2) hx hb d_Model_isBad_63 (by decide) ?_
              refine lv_icmp_gt (tgt := 87) hx hb d_Model_isBad_64 (by decide) (fun h19 => ?_) (fun h19 => ?_)
              · -- 2 < (fn a)
                refine lv_iconst (v := 1) hx hb d_Model_isBad_87 (by decide) ?_
                refine lv_goto (tgt := 92) hx hb d_Model_isBad_88 (by decide) ?_
                refine W.zret hx hb hr (by decide) (fun t ht hW => ⟨_, rfl, ?_, ht⟩) (fun q h => by cases h) d_Model_isBad_92
                show 1 = v_bad kd (nI n) (fo a) (fn a)
                first | (simp only [v_bad, v_b18, v_b1, v_b2, v_b14, h1, h2, h3, h4, h5, h18, h19, if_true, if_false, eq_self, not_true_eq_false, not_false_eq_true, ne_eq]; done) | (simp only [v_bad, v_b18, v_b1, v_b2, v_b14, h1, h2, h3, h4, h5, h18, h19, if_true, if_false, eq_self, not_true_eq_false, not_false_eq_true, ne_eq]; rfl) | (simp [v_bad, v_b18, v_b1, v_b2, v_b14, h1, h2, h3, h4, h5, h18, h19]; done)
              · -- ¬ 2 < (fn a)
                refine lv_iload_n hx hb d_Model_isBad_67 rfl (lv_at hl 0 rfl) ?_
                refine lv_iconst (v := 2) hx hb d_Model_isBad_68 (by decide) ?_
                refine lv_icmp_ne (tgt := 91) hx hb d_Model_isBad_69 (by decide) (fun h20 => ?_) (fun h20 => ?_)
                · -- ¬ (fn a) = 2
                  refine lv_iconst (v := 0) hx hb d_Model_isBad_91 (by decide) ?_
                  refine W.zret hx hb hr (by decide) (fun t ht hW => ⟨_, rfl, ?_, ht⟩) (fun q h => by cases h) d_Model_isBad_92
                  show 0 = v_bad kd (nI n) (fo a) (fn a)
                  first | (simp only [v_bad, v_b18, v_b1, v_b2, v_b14, h1, h2, h3, h4, h5, h18, h19, h20, if_true, if_false, eq_self, not_true_eq_false, not_false_eq_true, ne_eq]; done) | (simp only [v_bad, v_b18, v_b1, v_b2, v_b14, h1, h2, h3, h4, h5, h18, h19, h20, if_true, if_false, eq_self, not_true_eq_false, not_false_eq_true, ne_eq]; rfl) | (simp [v_bad, v_b18, v_b1, v_b2, v_b14, h1, h2, h3, h4, h5, h18, h19, h20]; done)
                · -- (fn a) = 2
                  refine lv_aload_n hx hb d_Model_isBad_72 rfl (lv_at hl 2 rfl) ?_
                  refine va_get (D := D) (ci := 4) (v := .int kd) (C := R_Model) (T := F_Model) (N := 13) hx hb hts in_Model hown hE.1 hP 0 rfl rfl 0 (by decide) (hts _ k_316) (fun _ h9 => h9) rfl d_Model_isBad_73 ?_
                  refine lv_if_eq (tgt := 87) hx hb d_Model_isBad_76 (by decide) (fun h21 => ?_) (fun h21 => ?_)
                  · -- kd = 0
                    refine lv_iconst (v := 1) hx hb d_Model_isBad_87 (by decide) ?_
                    refine lv_goto (tgt := 92) hx hb d_Model_isBad_88 (by decide) ?_
                    refine W.zret hx hb hr (by decide) (fun t ht hW => ⟨_, rfl, ?_, ht⟩) (fun q h => by cases h) d_Model_isBad_92
                    show 1 = v_bad kd (nI n) (fo a) (fn a)
                    first | (simp only [v_bad, v_b18, v_b1, v_b2, v_b14, h1, h2, h3, h4, h5, h18, h19, h20, h21, if_true, if_false, eq_self, not_true_eq_false, not_false_eq_true, ne_eq]; done) | (simp only [v_bad, v_b18, v_b1, v_b2, v_b14, h1, h2, h3, h4, h5, h18, h19, h20, h21, if_true, if_false, eq_self, not_true_eq_false, not_false_eq_true, ne_eq]; rfl) | (simp [v_bad, v_b18, v_b1, v_b2, v_b14, h1, h2, h3, h4, h5, h18, h19, h20, h21]; done)
                  · -- ¬ kd = 0
                    refine lv_aload_n hx hb d_Model_isBad_79 rfl (lv_at hl 2 rfl) ?_
                    refine va_get (D := D) (ci := 4) (v := .int kd) (C := R_Model) (T := F_Model) (N := 13) hx hb hts in_Model hown hE.1 hP 0 rfl rfl 0 (by decide) (hts _ k_316) (fun _ h9 => h9) rfl d_Model_isBad_80 ?_
                    refine lv_iconst (v := 3) hx hb d_Model_isBad_83 (by decide) ?_
                    refine lv_icmp_ne (tgt := 91) hx hb d_Model_isBad_84 (by decide) (fun h22 => ?_) (fun h22 => ?_)
                    · -- ¬ kd = 3
                      refine lv_iconst (v := 0) hx hb d_Model_isBad_91 (by decide) ?_
                      refine W.zret hx hb hr (by decide) (fun t ht hW => ⟨_, rfl, ?_, ht⟩) (fun q h => by cases h) d_Model_isBad_92
                      show 0 = v_bad kd (nI n) (fo a) (fn a)
                      first | (simp only [v_bad, v_b18, v_b1, v_b2, v_b14, h1, h2, h3, h4, h5, h18, h19, h20, h21, h22, if_true, if_false, eq_self, not_true_eq_false, not_false_eq_true, ne_eq]; done) | (simp only [v_bad, v_b18, v_b1, v_b2, v_b14, h1, h2, h3, h4, h5, h18, h19, h20, h21, h22, if_true, if_false, eq_self, not_true_eq_false, not_false_eq_true, ne_eq]; rfl) | (simp [v_bad, v_b18, v_b1, v_b2, v_b14, h1, h2, h3, h4, h5, h18, h19, h20, h21, h22]; done)
                    · -- kd = 3
                      refine lv_iconst (v := 1) hx hb d_Model_isBad_87 (by decide) ?_
                      refine lv_goto (tgt := 92) hx hb d_Model_isBad_88 (by decide) ?_
                      refine W.zret hx hb hr (by decide) (fun t ht hW => ⟨_, rfl, ?_, ht⟩) (fun q h => by cases h) d_Model_isBad_92
                      show 1 = v_bad kd (nI n) (fo a) (fn a)
                      first | (simp only [v_bad, v_b18, v_b1, v_b2, v_b14, h1, h2, h3, h4, h5, h18, h19, h20, h21, h22, if_true, if_false, eq_self, not_true_eq_false, not_false_eq_true, ne_eq]; done) | (simp only [v_bad, v_b18, v_b1, v_b2, v_b14, h1, h2, h3, h4, h5, h18, h19, h20, h21, h22, if_true, if_false, eq_self, not_true_eq_false, not_false_eq_true, ne_eq]; rfl) | (simp [v_bad, v_b18, v_b1, v_b2, v_b14, h1, h2, h3, h4, h5, h18, h19, h20, h21, h22]; done)
        · -- (fo a) = 18
          refine lv_aload_n hx hb d_Model_isBad_43 rfl (lv_at hl 2 rfl) ?_
          refine va_get (D := D) (ci := 4) (v := .int kd) (C := R_Model) (T := F_Model) (N := 13) hx hb hts in_Model hown hE.1 hP 0 rfl rfl 0 (by decide) (hts _ k_316) (fun _ h9 => h9) rfl d_Model_isBad_44 ?_
          refine lv_iconst (v := 3) hx hb d_Model_isBad_47 (by decide) ?_
          refine lv_icmp_eq (tgt := 53) hx hb d_Model_isBad_48 (by decide) (fun h23 => ?_) (fun h23 => ?_)
          · -- kd = 3
            refine lv_iload_n hx hb d_Model_isBad_53 rfl (lv_at hl 1 rfl) ?_
            refine lv_iconst (v := 1) hx hb d_Model_isBad_54 (by decide) ?_
            refine lv_icmp_ne (tgt := 93) hx hb d_Model_isBad_55 (by decide) (fun h24 => ?_) (fun h24 => ?_)
            · -- ¬ (fo a) = 1
              refine lv_iload_n hx hb d_Model_isBad_93 rfl (lv_at hl 1 rfl) ?_
              refine lv_iconst (v := 2) hx hb d_Model_isBad_94 (by decide) ?_
              refine lv_icmp_eq (tgt := 103) hx hb d_Model_isBad_95 (by decide) (fun h25 => ?_) (fun h25 => ?_)
              · -- (fo a) = 2
                exact absurd h25 (by rw [h4]; first | done | decide)
              · -- ¬ (fo a) = 2
                refine lv_iload_n hx hb d_Model_isBad_98 rfl (lv_at hl 1 rfl) ?_
                refine lv_iconst (v := 3) hx hb d_Model_isBad_99 (by decide) ?_
                refine lv_icmp_ne (tgt := 118) hx hb d_Model_isBad_100 (by decide) (fun h26 => ?_) (fun h26 => ?_)
                · -- ¬ (fo a) = 3
                  refine lv_iload_n hx hb d_Model_isBad_118 rfl (lv_at hl 1 rfl) ?_
                  refine lv_bipush (v := 14) hx hb d_Model_isBad_119 (by decide) ?_
                  refine lv_icmp_eq (tgt := 130) hx hb d_Model_isBad_121 (by decide) (fun h27 => ?_) (fun h27 => ?_)
                  · -- (fo a) = 14
                    exact absurd h27 (by rw [h4]; first | done | decide)
                  · -- ¬ (fo a) = 14
                    refine lv_iload_n hx hb d_Model_isBad_124 rfl (lv_at hl 1 rfl) ?_
                    refine lv_bipush (v := 15) hx hb d_Model_isBad_125 (by decide) ?_
                    refine lv_icmp_ne (tgt := 146) hx hb d_Model_isBad_127 (by decide) (fun h28 => ?_) (fun h28 => ?_)
                    · -- ¬ (fo a) = 15
                      refine lv_iconst (v := 0) hx hb d_Model_isBad_146 (by decide) ?_
                      refine W.zret hx hb hr (by decide) (fun t ht hW => ⟨_, rfl, ?_, ht⟩) (fun q h => by cases h) d_Model_isBad_147
                      show 0 = v_bad kd (nI n) (fo a) (fn a)
                      first | (simp only [v_bad, v_b18, v_b1, v_b2, v_b14, h1, h2, h3, h4, h23, h24, h25, h26, h27, h28, if_true, if_false, eq_self, not_true_eq_false, not_false_eq_true, ne_eq]; done) | (simp only [v_bad, v_b18, v_b1, v_b2, v_b14, h1, h2, h3, h4, h23, h24, h25, h26, h27, h28, if_true, if_false, eq_self, not_true_eq_false, not_false_eq_true, ne_eq]; rfl) | (simp [v_bad, v_b18, v_b1, v_b2, v_b14, h1, h2, h3, h4, h23, h24, h25, h26, h27, h28]; done)
                    · -- (fo a) = 15
                      exact absurd h28 (by rw [h4]; first | done | decide)
                · -- (fo a) = 3
                  exact absurd h26 (by rw [h4]; first | done | decide)
            · -- (fo a) = 1
              exact absurd h24 (by rw [h4]; first | done | decide)
          · -- ¬ kd = 3
            refine lv_iconst (v := 1) hx hb d_Model_isBad_51 (by decide) ?_
            refine W.zret hx hb hr (by decide) (fun t ht hW => ⟨_, rfl, ?_, ht⟩) (fun q h => by cases h) d_Model_isBad_52
            show 1 = v_bad kd (nI n) (fo a) (fn a)
            first | (simp only [v_bad, v_b18, v_b1, v_b2, v_b14, h1, h2, h3, h4, h23, if_true, if_false, eq_self, not_true_eq_false, not_false_eq_true, ne_eq]; done) | (simp only [v_bad, v_b18, v_b1, v_b2, v_b14, h1, h2, h3, h4, h23, if_true, if_false, eq_self, not_true_eq_false, not_false_eq_true, ne_eq]; rfl) | (simp [v_bad, v_b18, v_b1, v_b2, v_b14, h1, h2, h3, h4, h23]; done)
      · -- (fo a) = 16
        refine lv_aload_n hx hb d_Model_isBad_30 rfl (lv_at hl 2 rfl) ?_
        refine va_get (D := D) (ci := 4) (v := .int kd) (C := R_Model) (T := F_Model) (N := 13) hx hb hts in_Model hown hE.1 hP 0 rfl rfl 0 (by decide) (hts _ k_316) (fun _ h9 => h9) rfl d_Model_isBad_31 ?_
        refine lv_if_ne (tgt := 51) hx hb d_Model_isBad_34 (by decide) (fun h29 => ?_) (fun h29 => ?_)
        · -- ¬ kd = 0
          refine lv_iconst (v := 1) hx hb d_Model_isBad_51 (by decide) ?_
          refine W.zret hx hb hr (by decide) (fun t ht hW => ⟨_, rfl, ?_, ht⟩) (fun q h => by cases h) d_Model_isBad_52
          show 1 = v_bad kd (nI n) (fo a) (fn a)
          first | (simp only [v_bad, v_b18, v_b1, v_b2, v_b14, h1, h2, h3, h29, if_true, if_false, eq_self, not_true_eq_false, not_false_eq_true, ne_eq]; done) | (simp only [v_bad, v_b18, v_b1, v_b2, v_b14, h1, h2, h3, h29, if_true, if_false, eq_self, not_true_eq_false, not_false_eq_true, ne_eq]; rfl) | (simp [v_bad, v_b18, v_b1, v_b2, v_b14, h1, h2, h3, h29]; done)
        · -- kd = 0
          refine lv_iload_n hx hb d_Model_isBad_37 rfl (lv_at hl 1 rfl) ?_
          refine lv_bipush (v := 18) hx hb d_Model_isBad_38 (by decide) ?_
          refine lv_icmp_ne (tgt := 53) hx hb d_Model_isBad_40 (by decide) (fun h30 => ?_) (fun h30 => ?_)
          · -- ¬ (fo a) = 18
            refine lv_iload_n hx hb d_Model_isBad_53 rfl (lv_at hl 1 rfl) ?_
            refine lv_iconst (v := 1) hx hb d_Model_isBad_54 (by decide) ?_
            refine lv_icmp_ne (tgt := 93) hx hb d_Model_isBad_55 (by decide) (fun h31 => ?_) (fun h31 => ?_)
            · -- ¬ (fo a) = 1
              refine lv_iload_n hx hb d_Model_isBad_93 rfl (lv_at hl 1 rfl) ?_
              refine lv_iconst (v := 2) hx hb d_Model_isBad_94 (by decide) ?_
              refine lv_icmp_eq (tgt := 103) hx hb d_Model_isBad_95 (by decide) (fun h32 => ?_) (fun h32 => ?_)
              · -- (fo a) = 2
                exact absurd h32 (by rw [h3]; first | done | decide)
              · -- ¬ (fo a) = 2
                refine lv_iload_n hx hb d_Model_isBad_98 rfl (lv_at hl 1 rfl) ?_
                refine lv_iconst (v := 3) hx hb d_Model_isBad_99 (by decide) ?_
                refine lv_icmp_ne (tgt := 118) hx hb d_Model_isBad_100 (by decide) (fun h33 => ?_) (fun h33 => ?_)
                · -- ¬ (fo a) = 3
                  refine lv_iload_n hx hb d_Model_isBad_118 rfl (lv_at hl 1 rfl) ?_
                  refine lv_bipush (v := 14) hx hb d_Model_isBad_119 (by decide) ?_
                  refine lv_icmp_eq (tgt := 130) hx hb d_Model_isBad_121 (by decide) (fun h34 => ?_) (fun h34 => ?_)
                  · -- (fo a) = 14
                    exact absurd h34 (by rw [h3]; first | done | decide)
                  · -- ¬ (fo a) = 14
                    refine lv_iload_n hx hb d_Model_isBad_124 rfl (lv_at hl 1 rfl) ?_
                    refine lv_bipush (v := 15) hx hb d_Model_isBad_125 (by decide) ?_
                    refine lv_icmp_ne (tgt := 146) hx hb d_Model_isBad_127 (by decide) (fun h35 => ?_) (fun h35 => ?_)
                    · -- ¬ (fo a) = 15
                      refine lv_iconst (v := 0) hx hb d_Model_isBad_146 (by decide) ?_
                      refine W.zret hx hb hr (by decide) (fun t ht hW => ⟨_, rfl, ?_, ht⟩) (fun q h => by cases h) d_Model_isBad_147
                      show 0 = v_bad kd (nI n) (fo a) (fn a)
                      first | (simp only [v_bad, v_b18, v_b1, v_b2, v_b14, h1, h2, h3, h29, h30, h31, h32, h33, h34, h35, if_true, if_false, eq_self, not_true_eq_false, not_false_eq_true, ne_eq]; done) | (simp only [v_bad, v_b18, v_b1, v_b2, v_b14, h1, h2, h3, h29, h30, h31, h32, h33, h34, h35, if_true, if_false, eq_self, not_true_eq_false, not_false_eq_true, ne_eq]; rfl) | (simp [v_bad, v_b18, v_b1, v_b2, v_b14, h1, h2, h3, h29, h30, h31, h32, h33, h34, h35]; done)
                    · -- (fo a) = 15
                      exact absurd h35 (by rw [h3]; first | done | decide)
                · -- (fo a) = 3
                  exact absurd h33 (by rw [h3]; first | done | decide)
            · -- (fo a) = 1
              exact absurd h31 (by rw [h3]; first | done | decide)
          · -- (fo a) = 18
            exact absurd h30 (by rw [h3]; first | done | decide)
set_option maxHeartbeats 4000000 in
set_option maxRecDepth 100000 in
theorem c_Model_needs (l : Launch) (D : va_G) (cI cZ : ClassId) (mo mp mq mr mw mt ml mk mv : Nat) (kd : Int32) (n : Nat) (fo fn fR fW fs fl fk fv : Nat → Int32) (em sp rs : Int32) (o : Int32) : Met l y_Model_needs w_Model_needs (rmk 0) (va_Pc [.ref mo, .int o] (PY D cI cZ [(mo, .inr (4, [.int kd, .ref mp, .ref mq, .int (nI n), .ref mr, .ref mw, .ref mt, .ref ml, .ref mk, .ref mv, .int em, .int sp, .int rs])), (mp, .inl (cI, 64, .inl fo)), (mq, .inl (cI, 64, .inl fn)), (mr, .inl (cI, 576, .inl fR)), (mw, .inl (cZ, 64, .inl fW)), (mt, .inl (cI, 8, .inl fs)), (ml, .inl (cI, 4, .inl fl)), (mk, .inl (cI, 20, .inl fk)), (mv, .inl (cI, 20, .inl fv))])) (vp_Si (fun r => r = v_needs kd o)) 0 0 (fun _ => False) := by
  refine Met.ofW (cc := b_Model_needs) (maxL := 2) (ret := (some .int)) (by decide) rfl ?_
  intro p e s m args below meth c s₁ B hml hv
  obtain ⟨rfl, hP, hE⟩ := hv
  have hx := B.exec
  have hb := B.bytes
  have hr := B.returns
  have hts : ∀ w ∈ gW, w.before _ s = true := fun w h => atoms_spec (ws := w_Model_needs) B.pre w (List.mem_cons_of_mem _ h)
  have hown : s.vm.findClass R_Model = some m.cls := findClass_of_methodNamed B.named
  have hlocks := B.notSynchronized
  have hS : va_S (fun _ => False) s.heap s.heap [] := va_S.rf
  have hP : va_P D classes [(mo, .inr (4, [.int kd, .ref mp, .ref mq, .int (nI n), .ref mr, .ref mw, .ref mt, .ref ml, .ref mk, .ref mv, .int em, .int sp, .int rs])), (mp, .inl (cI, 64, .inl fo)), (mq, .inl (cI, 64, .inl fn)), (mr, .inl (cI, 576, .inl fR)), (mw, .inl (cZ, 64, .inl fW)), (mt, .inl (cI, 8, .inl fs)), (ml, .inl (cI, 4, .inl fl)), (mk, .inl (cI, 20, .inl fk)), (mv, .inl (cI, 20, .inl fv))] s.heap := hP
  have hl := lv_entry ([.ref mo, .int o]) (n := 2) (Nat.le_of_ble_eq_true rfl)
  rw [lg_entry_eq]
  generalize (lg_sl ([.ref mo, .int o]) ++ List.replicate (2 - (lg_sl ([.ref mo, .int o])).length) Slot.unset).toArray = ls at hl ⊢
  have hl : lv_has ls 2 [(0, .ref mo), (1, .int o)] := hl
  refine lv_iload_n hx hb d_Model_needs_0 rfl (lv_at hl 1 rfl) ?_
  refine lv_iconst (v := 5) hx hb d_Model_needs_1 (by decide) ?_
  refine lv_icmp_eq (tgt := 23) hx hb d_Model_needs_2 (by decide) (fun h1 => ?_) (fun h1 => ?_)
  · -- o = 5
    refine lv_iconst (v := 2) hx hb d_Model_needs_23 (by decide) ?_
    refine W.iret hx hb hr (fun t ht hW => ⟨_, rfl, ?_, ht⟩) (fun q h => by cases h) d_Model_needs_24
    show 2 = v_needs kd o
    first | (simp only [v_needs, v_n3, h1, if_true, if_false, eq_self, not_true_eq_false, not_false_eq_true, ne_eq]; done) | (simp only [v_needs, v_n3, h1, if_true, if_false, eq_self, not_true_eq_false, not_false_eq_true, ne_eq]; rfl) | (simp [v_needs, v_n3, h1]; done)
  · -- ¬ o = 5
    refine lv_iload_n hx hb d_Model_needs_5 rfl (lv_at hl 1 rfl) ?_
    refine lv_bipush (v := 7) hx hb d_Model_needs_6 (by decide) ?_
    refine lv_icmp_lt (tgt := 17) hx hb d_Model_needs_8 (by decide) (fun h2 => ?_) (fun h2 => ?_)
    · -- o < 7
      refine lv_iload_n hx hb d_Model_needs_17 rfl (lv_at hl 1 rfl) ?_
      refine lv_bipush (v := 16) hx hb d_Model_needs_18 (by decide) ?_
      refine lv_icmp_ne (tgt := 25) hx hb d_Model_needs_20 (by decide) (fun h3 => ?_) (fun h3 => ?_)
      · -- ¬ o = 16
        refine lv_iload_n hx hb d_Model_needs_25 rfl (lv_at hl 1 rfl) ?_
        refine lv_iconst (v := 3) hx hb d_Model_needs_26 (by decide) ?_
        refine lv_icmp_eq (tgt := 47) hx hb d_Model_needs_27 (by decide) (fun h4 => ?_) (fun h4 => ?_)
        · -- o = 3
          refine lv_iconst (v := 1) hx hb d_Model_needs_47 (by decide) ?_
          refine W.iret hx hb hr (fun t ht hW => ⟨_, rfl, ?_, ht⟩) (fun q h => by cases h) d_Model_needs_48
          show 1 = v_needs kd o
          first | (simp only [v_needs, v_n3, h1, h2, h3, h4, if_true, if_false, eq_self, not_true_eq_false, not_false_eq_true, ne_eq]; done) | (simp only [v_needs, v_n3, h1, h2, h3, h4, if_true, if_false, eq_self, not_true_eq_false, not_false_eq_true, ne_eq]; rfl) | (simp [v_needs, v_n3, h1, h2, h3, h4]; done)
        · -- ¬ o = 3
          refine lv_iload_n hx hb d_Model_needs_30 rfl (lv_at hl 1 rfl) ?_
          refine lv_iconst (v := 4) hx hb d_Model_needs_31 (by decide) ?_
          refine lv_icmp_eq (tgt := 47) hx hb d_Model_needs_32 (by decide) (fun h5 => ?_) (fun h5 => ?_)
          · -- o = 4
            refine lv_iconst (v := 1) hx hb d_Model_needs_47 (by decide) ?_
            refine W.iret hx hb hr (fun t ht hW => ⟨_, rfl, ?_, ht⟩) (fun q h => by cases h) d_Model_needs_48
            show 1 = v_needs kd o
            first | (simp only [v_needs, v_n3, h1, h2, h3, h4, h5, if_true, if_false, eq_self, not_true_eq_false, not_false_eq_true, ne_eq]; done) | (simp only [v_needs, v_n3, h1, h2, h3, h4, h5, if_true, if_false, eq_self, not_true_eq_false, not_false_eq_true, ne_eq]; rfl) | (simp [v_needs, v_n3, h1, h2, h3, h4, h5]; done)
          · -- ¬ o = 4
            refine lv_iload_n hx hb d_Model_needs_35 rfl (lv_at hl 1 rfl) ?_
            refine lv_bipush (v := 6) hx hb d_Model_needs_36 (by decide) ?_
            refine lv_icmp_eq (tgt := 47) hx hb d_Model_needs_38 (by decide) (fun h6 => ?_) (fun h6 => ?_)
            · -- o = 6
              refine lv_iconst (v := 1) hx hb d_Model_needs_47 (by decide) ?_
              refine W.iret hx hb hr (fun t ht hW => ⟨_, rfl, ?_, ht⟩) (fun q h => by cases h) d_Model_needs_48
              show 1 = v_needs kd o
              first | (simp only [v_needs, v_n3, h1, h2, h3, h4, h5, h6, if_true, if_false, eq_self, not_true_eq_false, not_false_eq_true, ne_eq]; done) | (simp only [v_needs, v_n3, h1, h2, h3, h4, h5, h6, if_true, if_false, eq_self, not_true_eq_false, not_false_eq_true, ne_eq]; rfl) | (simp [v_needs, v_n3, h1, h2, h3, h4, h5, h6]; done)
            · -- ¬ o = 6
              refine lv_iload_n hx hb d_Model_needs_41 rfl (lv_at hl 1 rfl) ?_
              refine lv_bipush (v := 15) hx hb d_Model_needs_42 (by decide) ?_
              refine lv_icmp_ne (tgt := 49) hx hb d_Model_needs_44 (by decide) (fun h7 => ?_) (fun h7 => ?_)
              · -- ¬ o = 15
                refine lv_iload_n hx hb d_Model_needs_49 rfl (lv_at hl 1 rfl) ?_
                refine lv_bipush (v := 17) hx hb d_Model_needs_50 (by decide) ?_
                refine lv_icmp_ne (tgt := 66) hx hb d_Model_needs_52 (by decide) (fun h8 => ?_) (fun h8 => ?_)
                · -- ¬ o = 17
                  refine lv_iconst (v := 0) hx hb d_Model_needs_66 (by decide) ?_
                  refine W.iret hx hb hr (fun t ht hW => ⟨_, rfl, ?_, ht⟩) (fun q h => by cases h) d_Model_needs_67
                  show 0 = v_needs kd o
                  first | (simp only [v_needs, v_n3, h1, h2, h3, h4, h5, h6, h7, h8, if_true, if_false, eq_self, not_true_eq_false, not_false_eq_true, ne_eq]; done) | (simp only [v_needs, v_n3, h1, h2, h3, h4, h5, h6, h7, h8, if_true, if_false, eq_self, not_true_eq_false, not_false_eq_true, ne_eq]; rfl) | (simp [v_needs, v_n3, h1, h2, h3, h4, h5, h6, h7, h8]; done)
                · -- o = 17
                  exact absurd h2 (by rw [h8]; first | done | decide)
              · -- o = 15
                exact absurd h2 (by rw [h7]; first | done | decide)
      · -- o = 16
        exact absurd h2 (by rw [h3]; first | done | decide)
    · -- ¬ o < 7
      refine lv_iload_n hx hb d_Model_needs_11 rfl (lv_at hl 1 rfl) ?_
      refine lv_bipush (v := 13) hx hb d_Model_needs_12 (by decide) ?_
      refine lv_icmp_le (tgt := 23) hx hb d_Model_needs_14 (by decide) (fun h9 => ?_) (fun h9 => ?_)
      · -- o ≤ 13
        refine lv_iconst (v := 2) hx hb d_Model_needs_23 (by decide) ?_
        refine W.iret hx hb hr (fun t ht hW => ⟨_, rfl, ?_, ht⟩) (fun q h => by cases h) d_Model_needs_24
        show 2 = v_needs kd o
        first | (simp only [v_needs, v_n3, h1, h2, h9, if_true, if_false, eq_self, not_true_eq_false, not_false_eq_true, ne_eq]; done) | (simp only [v_needs, v_n3, h1, h2, h9, if_true, if_false, eq_self, not_true_eq_false, not_false_eq_true, ne_eq]; rfl) | (simp [v_needs, v_n3, h1, h2, h9]; done)
      · -- ¬ o ≤ 13
        refine lv_iload_n hx hb d_Model_needs_17 rfl (lv_at hl 1 rfl) ?_
        refine lv_bipush (v := 16) hx hb d_Model_needs_18 (by decide) ?_
        refine lv_icmp_ne (tgt := 25) hx hb d_Model_needs_20 (by decide) (fun h10 => ?_) (fun h10 => ?_)
        · -- ¬ o = 16
          refine lv_iload_n hx hb d_Model_needs_25 rfl (lv_at hl 1 rfl) ?_
          refine lv_iconst (v := 3) hx hb d_Model_needs_26 (by decide) ?_
          refine lv_icmp_eq (tgt := 47) hx hb d_Model_needs_27 (by decide) (fun h11 => ?_) (fun h11 => ?_)
          · -- o = 3
            exact absurd (by rw [h11]; first | done | decide) h2
          · -- ¬ o = 3
            refine lv_iload_n hx hb d_Model_needs_30 rfl (lv_at hl 1 rfl) ?_
            refine lv_iconst (v := 4) hx hb d_Model_needs_31 (by decide) ?_
            refine lv_icmp_eq (tgt := 47) hx hb d_Model_needs_32 (by decide) (fun h12 => ?_) (fun h12 => ?_)
            · -- o = 4
              exact absurd (by rw [h12]; first | done | decide) h2
            · -- ¬ o = 4
              refine lv_iload_n hx hb d_Model_needs_35 rfl (lv_at hl 1 rfl) ?_
              refine lv_bipush (v := 6) hx hb d_Model_needs_36 (by decide) ?_
              refine lv_icmp_eq (tgt := 47) hx hb d_Model_needs_38 (by decide) (fun h13 => ?_) (fun h13 => ?_)
              · -- o = 6
                exact absurd (by rw [h13]; first | done | decide) h2
              · -- ¬ o = 6
                refine lv_iload_n hx hb d_Model_needs_41 rfl (lv_at hl 1 rfl) ?_
                refine lv_bipush (v := 15) hx hb d_Model_needs_42 (by decide) ?_
                refine lv_icmp_ne (tgt := 49) hx hb d_Model_needs_44 (by decide) (fun h14 => ?_) (fun h14 => ?_)
                · -- ¬ o = 15
                  refine lv_iload_n hx hb d_Model_needs_49 rfl (lv_at hl 1 rfl) ?_
                  refine lv_bipush (v := 17) hx hb d_Model_needs_50 (by decide) ?_
                  refine lv_icmp_ne (tgt := 66) hx hb d_Model_needs_52 (by decide) (fun h15 => ?_) (fun h15 => ?_)
                  · -- ¬ o = 17
                    refine lv_iconst (v := 0) hx hb d_Model_needs_66 (by decide) ?_
                    refine W.iret hx hb hr (fun t ht hW => ⟨_, rfl, ?_, ht⟩) (fun q h => by cases h) d_Model_needs_67
                    show 0 = v_needs kd o
                    first | (simp only [v_needs, v_n3, h1, h2, h9, h10, h11, h12, h13, h14, h15, if_true, if_false, eq_self, not_true_eq_false, not_false_eq_true, ne_eq]; done) | (simp only [v_needs, v_n3, h1, h2, h9, h10, h11, h12, h13, h14, h15, if_true, if_false, eq_self, not_true_eq_false, not_false_eq_true, ne_eq]; rfl) | (simp [v_needs, v_n3, h1, h2, h9, h10, h11, h12, h13, h14, h15]; done)
                  · -- o = 17
                    refine lv_aload_n hx hb d_Model_needs_55 rfl (lv_at hl 0 rfl) ?_
                    refine va_get (D := D) (ci := 4) (v := .int kd) (C := R_Model) (T := F_Model) (N := 13) hx hb hts in_Model hown hE.1 hP 0 rfl rfl 0 (by decide) (hts _ k_316) (fun _ h9 => h9) rfl d_Model_needs_56 ?_
                    refine lv_if_eq (tgt := 66) hx hb d_Model_needs_59 (by decide) (fun h16 => ?_) (fun h16 => ?_)
                    · -- kd = 0
                      refine lv_iconst (v := 0) hx hb d_Model_needs_66 (by decide) ?_
                      refine W.iret hx hb hr (fun t ht hW => ⟨_, rfl, ?_, ht⟩) (fun q h => by cases h) d_Model_needs_67
                      show 0 = v_needs kd o
                      first | (simp only [v_needs, v_n3, h1, h2, h9, h10, h11, h12, h13, h14, h15, h16, if_true, if_false, eq_self, not_true_eq_false, not_false_eq_true, ne_eq]; done) | (simp only [v_needs, v_n3, h1, h2, h9, h10, h11, h12, h13, h14, h15, h16, if_true, if_false, eq_self, not_true_eq_false, not_false_eq_true, ne_eq]; rfl) | (simp [v_needs, v_n3, h1, h2, h9, h10, h11, h12, h13, h14, h15, h16]; done)
                    · -- ¬ kd = 0
                      refine lv_iconst (v := 1) hx hb d_Model_needs_62 (by decide) ?_
                      refine lv_goto (tgt := 67) hx hb d_Model_needs_63 (by decide) ?_
                      refine W.iret hx hb hr (fun t ht hW => ⟨_, rfl, ?_, ht⟩) (fun q h => by cases h) d_Model_needs_67
                      show 1 = v_needs kd o
                      first | (simp only [v_needs, v_n3, h1, h2, h9, h10, h11, h12, h13, h14, h15, h16, if_true, if_false, eq_self, not_true_eq_false, not_false_eq_true, ne_eq]; done) | (simp only [v_needs, v_n3, h1, h2, h9, h10, h11, h12, h13, h14, h15, h16, if_true, if_false, eq_self, not_true_eq_false, not_false_eq_true, ne_eq]; rfl) | (simp [v_needs, v_n3, h1, h2, h9, h10, h11, h12, h13, h14, h15, h16]; done)
                · -- o = 15
                  refine lv_iconst (v := 1) hx hb d_Model_needs_47 (by decide) ?_
                  refine W.iret hx hb hr (fun t ht hW => ⟨_, rfl, ?_, ht⟩) (fun q h => by cases h) d_Model_needs_48
                  show 1 = v_needs kd o
                  first | (simp only [v_needs, v_n3, h1, h2, h9, h10, h11, h12, h13, h14, if_true, if_false, eq_self, not_true_eq_false, not_false_eq_true, ne_eq]; done) | (simp only [v_needs, v_n3, h1, h2, h9, h10, h11, h12, h13, h14, if_true, if_false, eq_self, not_true_eq_false, not_false_eq_true, ne_eq]; rfl) | (simp [v_needs, v_n3, h1, h2, h9, h10, h11, h12, h13, h14]; done)
        · -- o = 16
          refine lv_iconst (v := 2) hx hb d_Model_needs_23 (by decide) ?_
          refine W.iret hx hb hr (fun t ht hW => ⟨_, rfl, ?_, ht⟩) (fun q h => by cases h) d_Model_needs_24
          show 2 = v_needs kd o
          first | (simp only [v_needs, v_n3, h1, h2, h9, h10, if_true, if_false, eq_self, not_true_eq_false, not_false_eq_true, ne_eq]; done) | (simp only [v_needs, v_n3, h1, h2, h9, h10, if_true, if_false, eq_self, not_true_eq_false, not_false_eq_true, ne_eq]; rfl) | (simp [v_needs, v_n3, h1, h2, h9, h10]; done)
set_option maxHeartbeats 4000000 in
set_option maxRecDepth 100000 in
theorem c_Model_grows (l : Launch) (o : Int32) : Met l y_Model_grows w_Model_grows (rmk 0) (va_Pc [.int o] (fun _ => True)) (vp_Si (fun r => r = v_grow o)) 0 0 (fun _ => False) := by
  refine Met.ofW (cc := b_Model_grows) (maxL := 1) (ret := (some .int)) (by decide) rfl ?_
  intro p e s m args below meth c s₁ B hml hv
  obtain ⟨rfl, -⟩ := hv
  have hx := B.exec
  have hb := B.bytes
  have hr := B.returns
  have hts : ∀ w ∈ gW, w.before _ s = true := fun w h => atoms_spec (ws := w_Model_grows) B.pre w (List.mem_cons_of_mem _ h)
  have hown : s.vm.findClass R_Model = some m.cls := findClass_of_methodNamed B.named
  have hlocks := B.notSynchronized
  have hl := lv_entry ([.int o]) (n := 1) (Nat.le_of_ble_eq_true rfl)
  rw [lg_entry_eq]
  generalize (lg_sl ([.int o]) ++ List.replicate (1 - (lg_sl ([.int o])).length) Slot.unset).toArray = ls at hl ⊢
  have hl : lv_has ls 1 [(0, .int o)] := hl
  refine lv_iload_n hx hb d_Model_grows_0 rfl (lv_at hl 0 rfl) ?_
  refine lv_iconst (v := 2) hx hb d_Model_grows_1 (by decide) ?_
  refine lv_icmp_le (tgt := 10) hx hb d_Model_grows_2 (by decide) (fun h1 => ?_) (fun h1 => ?_)
  · -- o ≤ 2
    refine lv_iconst (v := 1) hx hb d_Model_grows_10 (by decide) ?_
    refine W.iret hx hb hr (fun t ht hW => ⟨_, rfl, ?_, ht⟩) (fun q h => by cases h) d_Model_grows_11
    show 1 = v_grow o
    first | (simp only [v_grow, v_g15, h1, if_true, if_false, eq_self, not_true_eq_false, not_false_eq_true, ne_eq]; done) | (simp only [v_grow, v_g15, h1, if_true, if_false, eq_self, not_true_eq_false, not_false_eq_true, ne_eq]; rfl) | (simp [v_grow, v_g15, h1]; done)
  · -- ¬ o ≤ 2
    refine lv_iload_n hx hb d_Model_grows_5 rfl (lv_at hl 0 rfl) ?_
    refine lv_iconst (v := 4) hx hb d_Model_grows_6 (by decide) ?_
    refine lv_icmp_ne (tgt := 12) hx hb d_Model_grows_7 (by decide) (fun h2 => ?_) (fun h2 => ?_)
    · -- ¬ o = 4
      refine lv_iload_n hx hb d_Model_grows_12 rfl (lv_at hl 0 rfl) ?_
      refine lv_iconst (v := 3) hx hb d_Model_grows_13 (by decide) ?_
      refine lv_icmp_eq (tgt := 41) hx hb d_Model_grows_14 (by decide) (fun h3 => ?_) (fun h3 => ?_)
      · -- o = 3
        refine lv_iconst (v := (-1)) hx hb d_Model_grows_41 (by decide) ?_
        refine W.iret hx hb hr (fun t ht hW => ⟨_, rfl, ?_, ht⟩) (fun q h => by cases h) d_Model_grows_42
        show (-1) = v_grow o
        first | (simp only [v_grow, v_g15, h1, h2, h3, if_true, if_false, eq_self, not_true_eq_false, not_false_eq_true, ne_eq]; done) | (simp only [v_grow, v_g15, h1, h2, h3, if_true, if_false, eq_self, not_true_eq_false, not_false_eq_true, ne_eq]; rfl) | (simp [v_grow, v_g15, h1, h2, h3]; done)
      · -- ¬ o = 3
        refine lv_iload_n hx hb d_Model_grows_17 rfl (lv_at hl 0 rfl) ?_
        refine lv_bipush (v := 6) hx hb d_Model_grows_18 (by decide) ?_
        refine lv_icmp_eq (tgt := 41) hx hb d_Model_grows_20 (by decide) (fun h4 => ?_) (fun h4 => ?_)
        · -- o = 6
          refine lv_iconst (v := (-1)) hx hb d_Model_grows_41 (by decide) ?_
          refine W.iret hx hb hr (fun t ht hW => ⟨_, rfl, ?_, ht⟩) (fun q h => by cases h) d_Model_grows_42
          show (-1) = v_grow o
          first | (simp only [v_grow, v_g15, h1, h2, h3, h4, if_true, if_false, eq_self, not_true_eq_false, not_false_eq_true, ne_eq]; done) | (simp only [v_grow, v_g15, h1, h2, h3, h4, if_true, if_false, eq_self, not_true_eq_false, not_false_eq_true, ne_eq]; rfl) | (simp [v_grow, v_g15, h1, h2, h3, h4]; done)
        · -- ¬ o = 6
          refine lv_iload_n hx hb d_Model_grows_23 rfl (lv_at hl 0 rfl) ?_
          refine lv_bipush (v := 7) hx hb d_Model_grows_24 (by decide) ?_
          refine lv_icmp_lt (tgt := 35) hx hb d_Model_grows_26 (by decide) (fun h5 => ?_) (fun h5 => ?_)
          · -- o < 7
            refine lv_iload_n hx hb d_Model_grows_35 rfl (lv_at hl 0 rfl) ?_
            refine lv_bipush (v := 15) hx hb d_Model_grows_36 (by decide) ?_
            refine lv_icmp_ne (tgt := 43) hx hb d_Model_grows_38 (by decide) (fun h6 => ?_) (fun h6 => ?_)
            · -- ¬ o = 15
              refine lv_iload_n hx hb d_Model_grows_43 rfl (lv_at hl 0 rfl) ?_
              refine lv_bipush (v := 16) hx hb d_Model_grows_44 (by decide) ?_
              refine lv_icmp_ne (tgt := 54) hx hb d_Model_grows_46 (by decide) (fun h7 => ?_) (fun h7 => ?_)
              · -- ¬ o = 16
                refine lv_iconst (v := 0) hx hb d_Model_grows_54 (by decide) ?_
                refine W.iret hx hb hr (fun t ht hW => ⟨_, rfl, ?_, ht⟩) (fun q h => by cases h) d_Model_grows_55
                show 0 = v_grow o
                first | (simp only [v_grow, v_g15, h1, h2, h3, h4, h5, h6, h7, if_true, if_false, eq_self, not_true_eq_false, not_false_eq_true, ne_eq]; done) | (simp only [v_grow, v_g15, h1, h2, h3, h4, h5, h6, h7, if_true, if_false, eq_self, not_true_eq_false, not_false_eq_true, ne_eq]; rfl) | (simp [v_grow, v_g15, h1, h2, h3, h4, h5, h6, h7]; done)
              · -- o = 16
                exact absurd h5 (by rw [h7]; first | done | decide)
            · -- o = 15
              exact absurd h5 (by rw [h6]; first | done | decide)
          · -- ¬ o < 7
            refine lv_iload_n hx hb d_Model_grows_29 rfl (lv_at hl 0 rfl) ?_
            refine lv_bipush (v := 13) hx hb d_Model_grows_30 (by decide) ?_
            refine lv_icmp_le (tgt := 41) hx hb d_Model_grows_32 (by decide) (fun h8 => ?_) (fun h8 => ?_)
            · -- o ≤ 13
              refine lv_iconst (v := (-1)) hx hb d_Model_grows_41 (by decide) ?_
              refine W.iret hx hb hr (fun t ht hW => ⟨_, rfl, ?_, ht⟩) (fun q h => by cases h) d_Model_grows_42
              show (-1) = v_grow o
              first | (simp only [v_grow, v_g15, h1, h2, h3, h4, h5, h8, if_true, if_false, eq_self, not_true_eq_false, not_false_eq_true, ne_eq]; done) | (simp only [v_grow, v_g15, h1, h2, h3, h4, h5, h8, if_true, if_false, eq_self, not_true_eq_false, not_false_eq_true, ne_eq]; rfl) | (simp [v_grow, v_g15, h1, h2, h3, h4, h5, h8]; done)
            · -- ¬ o ≤ 13
              refine lv_iload_n hx hb d_Model_grows_35 rfl (lv_at hl 0 rfl) ?_
              refine lv_bipush (v := 15) hx hb d_Model_grows_36 (by decide) ?_
              refine lv_icmp_ne (tgt := 43) hx hb d_Model_grows_38 (by decide) (fun h9 => ?_) (fun h9 => ?_)
              · -- ¬ o = 15
                refine lv_iload_n hx hb d_Model_grows_43 rfl (lv_at hl 0 rfl) ?_
                refine lv_bipush (v := 16) hx hb d_Model_grows_44 (by decide) ?_
                refine lv_icmp_ne (tgt := 54) hx hb d_Model_grows_46 (by decide) (fun h10 => ?_) (fun h10 => ?_)
                · -- ¬ o = 16
                  refine lv_iconst (v := 0) hx hb d_Model_grows_54 (by decide) ?_
                  refine W.iret hx hb hr (fun t ht hW => ⟨_, rfl, ?_, ht⟩) (fun q h => by cases h) d_Model_grows_55
                  show 0 = v_grow o
                  first | (simp only [v_grow, v_g15, h1, h2, h3, h4, h5, h8, h9, h10, if_true, if_false, eq_self, not_true_eq_false, not_false_eq_true, ne_eq]; done) | (simp only [v_grow, v_g15, h1, h2, h3, h4, h5, h8, h9, h10, if_true, if_false, eq_self, not_true_eq_false, not_false_eq_true, ne_eq]; rfl) | (simp [v_grow, v_g15, h1, h2, h3, h4, h5, h8, h9, h10]; done)
                · -- o = 16
                  refine lv_bipush (v := (-2)) hx hb d_Model_grows_49 (by decide) ?_
                  refine lv_goto (tgt := 55) hx hb d_Model_grows_51 (by decide) ?_
                  refine W.iret hx hb hr (fun t ht hW => ⟨_, rfl, ?_, ht⟩) (fun q h => by cases h) d_Model_grows_55
                  show (-2) = v_grow o
                  first | (simp only [v_grow, v_g15, h1, h2, h3, h4, h5, h8, h9, h10, if_true, if_false, eq_self, not_true_eq_false, not_false_eq_true, ne_eq]; done) | (simp only [v_grow, v_g15, h1, h2, h3, h4, h5, h8, h9, h10, if_true, if_false, eq_self, not_true_eq_false, not_false_eq_true, ne_eq]; rfl) | (simp [v_grow, v_g15, h1, h2, h3, h4, h5, h8, h9, h10]; done)
              · -- o = 15
                refine lv_iconst (v := (-1)) hx hb d_Model_grows_41 (by decide) ?_
                refine W.iret hx hb hr (fun t ht hW => ⟨_, rfl, ?_, ht⟩) (fun q h => by cases h) d_Model_grows_42
                show (-1) = v_grow o
                first | (simp only [v_grow, v_g15, h1, h2, h3, h4, h5, h8, h9, if_true, if_false, eq_self, not_true_eq_false, not_false_eq_true, ne_eq]; done) | (simp only [v_grow, v_g15, h1, h2, h3, h4, h5, h8, h9, if_true, if_false, eq_self, not_true_eq_false, not_false_eq_true, ne_eq]; rfl) | (simp [v_grow, v_g15, h1, h2, h3, h4, h5, h8, h9]; done)
    · -- o = 4
      refine lv_iconst (v := 1) hx hb d_Model_grows_10 (by decide) ?_
      refine W.iret hx hb hr (fun t ht hW => ⟨_, rfl, ?_, ht⟩) (fun q h => by cases h) d_Model_grows_11
      show 1 = v_grow o
      first | (simp only [v_grow, v_g15, h1, h2, if_true, if_false, eq_self, not_true_eq_false, not_false_eq_true, ne_eq]; done) | (simp only [v_grow, v_g15, h1, h2, if_true, if_false, eq_self, not_true_eq_false, not_false_eq_true, ne_eq]; rfl) | (simp [v_grow, v_g15, h1, h2]; done)
set_option maxHeartbeats 4000000 in
set_option maxRecDepth 100000 in
theorem c_Model_reckoned (l : Launch) (op x y : Int32) : Met l y_Model_reckoned w_Model_reckoned (rmk 0) (va_Pc [.int op, .int x, .int y] (fun _ => True)) (vp_Si (fun r => r = m_comb op x y)) 0 0 (fun _ => False) := by
  refine Met.ofW (cc := b_Model_reckoned) (maxL := 3) (ret := (some .int)) (by decide) rfl ?_
  intro p e s m args below meth c s₁ B hml hv
  obtain ⟨rfl, -⟩ := hv
  have hx := B.exec
  have hb := B.bytes
  have hr := B.returns
  have hts : ∀ w ∈ gW, w.before _ s = true := fun w h => atoms_spec (ws := w_Model_reckoned) B.pre w (List.mem_cons_of_mem _ h)
  have hown : s.vm.findClass R_Model = some m.cls := findClass_of_methodNamed B.named
  have hlocks := B.notSynchronized
  have hl := lv_entry ([.int op, .int x, .int y]) (n := 3) (Nat.le_of_ble_eq_true rfl)
  rw [lg_entry_eq]
  generalize (lg_sl ([.int op, .int x, .int y]) ++ List.replicate (3 - (lg_sl ([.int op, .int x, .int y])).length) Slot.unset).toArray = ls at hl ⊢
  have hl : lv_has ls 3 [(0, .int op), (1, .int x), (2, .int y)] := hl
  refine lv_iload_n hx hb d_Model_reckoned_0 rfl (lv_at hl 0 rfl) ?_
  rcases (by omega : (Int32.toInt op < 7 ∨ 12 < Int32.toInt op) ∨ Int32.toInt op = 7 ∨ Int32.toInt op = 8 ∨ Int32.toInt op = 9 ∨ Int32.toInt op = 10 ∨ Int32.toInt op = 11 ∨ Int32.toInt op = 12) with h1 | h1 | h1 | h1 | h1 | h1 | h1
  · -- default
    refine lv_tableOut (tgt := 87) hx hb d_Model_reckoned_1 h1 (by decide) ?_
    refine lv_iload_n hx hb d_Model_reckoned_87 rfl (lv_at hl 1 rfl) ?_
    refine lv_iload_n hx hb d_Model_reckoned_88 rfl (lv_at hl 2 rfl) ?_
    refine lv_icmp_ne (tgt := 96) hx hb d_Model_reckoned_89 (by decide) (fun h2 => ?_) (fun h2 => ?_)
    · -- ¬ x = y
      refine lv_iconst (v := 0) hx hb d_Model_reckoned_96 (by decide) ?_
      refine W.iret hx hb hr (fun t ht hW => ⟨_, rfl, ?_, ht⟩) (fun q h => by cases h) d_Model_reckoned_97
      show 0 = m_comb op x y
      (have g7 := sw_ne (k := 7) h1 (by decide); have g8 := sw_ne (k := 8) h1 (by decide); have g9 := sw_ne (k := 9) h1 (by decide); have g10 := sw_ne (k := 10) h1 (by decide); have g11 := sw_ne (k := 11) h1 (by decide); have g12 := sw_ne (k := 12) h1 (by decide); simp only [m_comb, g7, g8, g9, g10, g11, g12, h2, if_true, if_false, eq_self, not_true_eq_false, not_false_eq_true, ne_eq])
    · -- x = y
      refine lv_iconst (v := 1) hx hb d_Model_reckoned_92 (by decide) ?_
      refine lv_goto (tgt := 97) hx hb d_Model_reckoned_93 (by decide) ?_
      refine W.iret hx hb hr (fun t ht hW => ⟨_, rfl, ?_, ht⟩) (fun q h => by cases h) d_Model_reckoned_97
      show 1 = m_comb op x y
      (have g7 := sw_ne (k := 7) h1 (by decide); have g8 := sw_ne (k := 8) h1 (by decide); have g9 := sw_ne (k := 9) h1 (by decide); have g10 := sw_ne (k := 10) h1 (by decide); have g11 := sw_ne (k := 11) h1 (by decide); have g12 := sw_ne (k := 12) h1 (by decide); simp only [m_comb, g7, g8, g9, g10, g11, g12, h2, if_true, if_false, eq_self, not_true_eq_false, not_false_eq_true, ne_eq])
  · -- case 7
    have h1 : op = 7 := Int32.toInt_inj.mp (by rw [h1]; decide)
    subst h1
    refine lv_tableIn (tgt := 40) (off := 39) hx hb d_Model_reckoned_1 (by decide) (by decide) (by decide +kernel) (by decide) ?_
    refine lv_iload_n hx hb d_Model_reckoned_40 rfl (lv_at hl 1 rfl) ?_
    refine lv_iload_n hx hb d_Model_reckoned_41 rfl (lv_at hl 2 rfl) ?_
    refine lv_iadd hx hb d_Model_reckoned_42 ?_
    refine W.iret hx hb hr (fun t ht hW => ⟨_, rfl, ?_, ht⟩) (fun q h => by cases h) d_Model_reckoned_43
    show (x + y) = m_comb 7 x y
    first | rfl | (simp only [m_comb, if_true, if_false, eq_self, not_true_eq_false, not_false_eq_true, ne_eq]; rfl) | (unfold m_comb; simp [])
  · -- case 8
    have h1 : op = 8 := Int32.toInt_inj.mp (by rw [h1]; decide)
    subst h1
    refine lv_tableIn (tgt := 44) (off := 43) hx hb d_Model_reckoned_1 (by decide) (by decide) (by decide +kernel) (by decide) ?_
    refine lv_iload_n hx hb d_Model_reckoned_44 rfl (lv_at hl 1 rfl) ?_
    refine lv_iload_n hx hb d_Model_reckoned_45 rfl (lv_at hl 2 rfl) ?_
    refine lv_isub hx hb d_Model_reckoned_46 ?_
    refine W.iret hx hb hr (fun t ht hW => ⟨_, rfl, ?_, ht⟩) (fun q h => by cases h) d_Model_reckoned_47
    show (x - y) = m_comb 8 x y
    first | rfl | (simp only [m_comb, if_true, if_false, eq_self, not_true_eq_false, not_false_eq_true, ne_eq]; rfl) | (unfold m_comb; simp [])
  · -- case 9
    have h1 : op = 9 := Int32.toInt_inj.mp (by rw [h1]; decide)
    subst h1
    refine lv_tableIn (tgt := 48) (off := 47) hx hb d_Model_reckoned_1 (by decide) (by decide) (by decide +kernel) (by decide) ?_
    refine lv_iload_n hx hb d_Model_reckoned_48 rfl (lv_at hl 1 rfl) ?_
    refine lv_iload_n hx hb d_Model_reckoned_49 rfl (lv_at hl 2 rfl) ?_
    refine lv_imul hx hb d_Model_reckoned_50 ?_
    refine W.iret hx hb hr (fun t ht hW => ⟨_, rfl, ?_, ht⟩) (fun q h => by cases h) d_Model_reckoned_51
    show (x * y) = m_comb 9 x y
    first | rfl | (simp only [m_comb, if_true, if_false, eq_self, not_true_eq_false, not_false_eq_true, ne_eq]; rfl) | (unfold m_comb; simp [])
  · -- case 10
    have h1 : op = 10 := Int32.toInt_inj.mp (by rw [h1]; decide)
    subst h1
    refine lv_tableIn (tgt := 52) (off := 51) hx hb d_Model_reckoned_1 (by decide) (by decide) (by decide +kernel) (by decide) ?_
    refine lv_iload_n hx hb d_Model_reckoned_52 rfl (lv_at hl 2 rfl) ?_
    refine lv_if_ne (tgt := 60) hx hb d_Model_reckoned_53 (by decide) (fun h3 => ?_) (fun h3 => ?_)
    · -- ¬ y = 0
      refine lv_iload_n hx hb d_Model_reckoned_60 rfl (lv_at hl 1 rfl) ?_
      refine lv_iload_n hx hb d_Model_reckoned_61 rfl (lv_at hl 2 rfl) ?_
      refine lv_idiv hx hb d_Model_reckoned_62 h3 ?_
      refine W.iret hx hb hr (fun t ht hW => ⟨_, rfl, ?_, ht⟩) (fun q h => by cases h) d_Model_reckoned_63
      show (x / y) = m_comb 10 x y
      first | rfl | (simp only [m_comb, h3, if_true, if_false, eq_self, not_true_eq_false, not_false_eq_true, ne_eq]; rfl) | (unfold m_comb; simp [h3])
    · -- y = 0
      refine lv_iconst (v := 0) hx hb d_Model_reckoned_56 (by decide) ?_
      refine lv_goto (tgt := 63) hx hb d_Model_reckoned_57 (by decide) ?_
      refine W.iret hx hb hr (fun t ht hW => ⟨_, rfl, ?_, ht⟩) (fun q h => by cases h) d_Model_reckoned_63
      show 0 = m_comb 10 x y
      first | rfl | (simp only [m_comb, h3, if_true, if_false, eq_self, not_true_eq_false, not_false_eq_true, ne_eq]; rfl) | (unfold m_comb; simp [h3])
  · -- case 11
    have h1 : op = 11 := Int32.toInt_inj.mp (by rw [h1]; decide)
    subst h1
    refine lv_tableIn (tgt := 64) (off := 63) hx hb d_Model_reckoned_1 (by decide) (by decide) (by decide +kernel) (by decide) ?_
    refine lv_iload_n hx hb d_Model_reckoned_64 rfl (lv_at hl 2 rfl) ?_
    refine lv_if_ne (tgt := 72) hx hb d_Model_reckoned_65 (by decide) (fun h4 => ?_) (fun h4 => ?_)
    · -- ¬ y = 0
      refine lv_iload_n hx hb d_Model_reckoned_72 rfl (lv_at hl 1 rfl) ?_
      refine lv_iload_n hx hb d_Model_reckoned_73 rfl (lv_at hl 2 rfl) ?_
      refine lv_irem hx hb d_Model_reckoned_74 h4 ?_
      refine W.iret hx hb hr (fun t ht hW => ⟨_, rfl, ?_, ht⟩) (fun q h => by cases h) d_Model_reckoned_75
      show (x - x / y * y) = m_comb 11 x y
      first | rfl | (simp only [m_comb, h4, if_true, if_false, eq_self, not_true_eq_false, not_false_eq_true, ne_eq]; rfl) | (unfold m_comb; simp [h4])
    · -- y = 0
      refine lv_iconst (v := 0) hx hb d_Model_reckoned_68 (by decide) ?_
      refine lv_goto (tgt := 75) hx hb d_Model_reckoned_69 (by decide) ?_
      refine W.iret hx hb hr (fun t ht hW => ⟨_, rfl, ?_, ht⟩) (fun q h => by cases h) d_Model_reckoned_75
      show 0 = m_comb 11 x y
      first | rfl | (simp only [m_comb, h4, if_true, if_false, eq_self, not_true_eq_false, not_false_eq_true, ne_eq]; rfl) | (unfold m_comb; simp [h4])
  · -- case 12
    have h1 : op = 12 := Int32.toInt_inj.mp (by rw [h1]; decide)
    subst h1
    refine lv_tableIn (tgt := 76) (off := 75) hx hb d_Model_reckoned_1 (by decide) (by decide) (by decide +kernel) (by decide) ?_
    refine lv_iload_n hx hb d_Model_reckoned_76 rfl (lv_at hl 1 rfl) ?_
    refine lv_iload_n hx hb d_Model_reckoned_77 rfl (lv_at hl 2 rfl) ?_
    refine lv_icmp_ge (tgt := 85) hx hb d_Model_reckoned_78 (by decide) (fun h5 => ?_) (fun h5 => ?_)
    · -- y ≤ x
      refine lv_iconst (v := 0) hx hb d_Model_reckoned_85 (by decide) ?_
      refine W.iret hx hb hr (fun t ht hW => ⟨_, rfl, ?_, ht⟩) (fun q h => by cases h) d_Model_reckoned_86
      show 0 = m_comb 12 x y
      first | rfl | (simp only [m_comb, h5, if_true, if_false, eq_self, not_true_eq_false, not_false_eq_true, ne_eq]; rfl) | (unfold m_comb; simp [h5])
    · -- ¬ y ≤ x
      refine lv_iconst (v := 1) hx hb d_Model_reckoned_81 (by decide) ?_
      refine lv_goto (tgt := 86) hx hb d_Model_reckoned_82 (by decide) ?_
      refine W.iret hx hb hr (fun t ht hW => ⟨_, rfl, ?_, ht⟩) (fun q h => by cases h) d_Model_reckoned_86
      show 1 = m_comb 12 x y
      first | rfl | (simp only [m_comb, h5, if_true, if_false, eq_self, not_true_eq_false, not_false_eq_true, ne_eq]; rfl) | (unfold m_comb; simp [h5])
set_option maxHeartbeats 4000000 in
set_option maxRecDepth 100000 in
theorem c_Model_result (l : Launch) (D : va_G) (cI cZ : ClassId) (mo mp mq mr mw mt ml mk mv : Nat) (kd : Int32) (n : Nat) (fo fn fR fW fs fl fk fv : Nat → Int32) (em sp rs : Int32) : Met l y_Model_result w_Model_result (rmk 0) (va_Pc [.ref mo] (PY D cI cZ [(mo, .inr (4, [.int kd, .ref mp, .ref mq, .int (nI n), .ref mr, .ref mw, .ref mt, .ref ml, .ref mk, .ref mv, .int em, .int sp, .int rs])), (mp, .inl (cI, 64, .inl fo)), (mq, .inl (cI, 64, .inl fn)), (mr, .inl (cI, 576, .inl fR)), (mw, .inl (cZ, 64, .inl fW)), (mt, .inl (cI, 8, .inl fs)), (ml, .inl (cI, 4, .inl fl)), (mk, .inl (cI, 20, .inl fk)), (mv, .inl (cI, 20, .inl fv))])) (vp_Si (fun r => r = rs)) 0 0 (fun _ => False) := by
  refine Met.ofW (cc := b_Model_result) (maxL := 1) (ret := (some .int)) (by decide) rfl ?_
  intro p e s m args below meth c s₁ B hml hv
  obtain ⟨rfl, hP, hE⟩ := hv
  have hx := B.exec
  have hb := B.bytes
  have hr := B.returns
  have hts : ∀ w ∈ gW, w.before _ s = true := fun w h => atoms_spec (ws := w_Model_result) B.pre w (List.mem_cons_of_mem _ h)
  have hown : s.vm.findClass R_Model = some m.cls := findClass_of_methodNamed B.named
  have hlocks := B.notSynchronized
  have hS : va_S (fun _ => False) s.heap s.heap [] := va_S.rf
  have hP : va_P D classes [(mo, .inr (4, [.int kd, .ref mp, .ref mq, .int (nI n), .ref mr, .ref mw, .ref mt, .ref ml, .ref mk, .ref mv, .int em, .int sp, .int rs])), (mp, .inl (cI, 64, .inl fo)), (mq, .inl (cI, 64, .inl fn)), (mr, .inl (cI, 576, .inl fR)), (mw, .inl (cZ, 64, .inl fW)), (mt, .inl (cI, 8, .inl fs)), (ml, .inl (cI, 4, .inl fl)), (mk, .inl (cI, 20, .inl fk)), (mv, .inl (cI, 20, .inl fv))] s.heap := hP
  have hl := lv_entry ([.ref mo]) (n := 1) (Nat.le_of_ble_eq_true rfl)
  rw [lg_entry_eq]
  generalize (lg_sl ([.ref mo]) ++ List.replicate (1 - (lg_sl ([.ref mo])).length) Slot.unset).toArray = ls at hl ⊢
  have hl : lv_has ls 1 [(0, .ref mo)] := hl
  refine lv_aload_n hx hb d_Model_result_0 rfl (lv_at hl 0 rfl) ?_
  refine va_get (D := D) (ci := 4) (v := .int rs) (C := R_Model) (T := F_Model) (N := 13) hx hb hts in_Model hown hE.1 hP 0 rfl rfl 12 (by decide) (hts _ k_328) (fun _ h9 => h9) rfl d_Model_result_1 ?_
  refine W.iret hx hb hr (fun t ht hW => ⟨_, rfl, ?_, ht⟩) (fun q h => by cases h) d_Model_result_4
  show rs = rs
  rfl
set_option maxHeartbeats 4000000 in
set_option maxRecDepth 100000 in
theorem c_Model_steps (l : Launch) (D : va_G) (cI cZ : ClassId) (mo mp mq mr mw mt ml mk mv : Nat) (kd : Int32) (n : Nat) (fo fn fR fW fs fl fk fv : Nat → Int32) (em sp rs : Int32) : Met l y_Model_steps w_Model_steps (rmk 0) (va_Pc [.ref mo] (PY D cI cZ [(mo, .inr (4, [.int kd, .ref mp, .ref mq, .int (nI n), .ref mr, .ref mw, .ref mt, .ref ml, .ref mk, .ref mv, .int em, .int sp, .int rs])), (mp, .inl (cI, 64, .inl fo)), (mq, .inl (cI, 64, .inl fn)), (mr, .inl (cI, 576, .inl fR)), (mw, .inl (cZ, 64, .inl fW)), (mt, .inl (cI, 8, .inl fs)), (ml, .inl (cI, 4, .inl fl)), (mk, .inl (cI, 20, .inl fk)), (mv, .inl (cI, 20, .inl fv))])) (vp_Si (fun r => r = sp)) 0 0 (fun _ => False) := by
  refine Met.ofW (cc := b_Model_steps) (maxL := 1) (ret := (some .int)) (by decide) rfl ?_
  intro p e s m args below meth c s₁ B hml hv
  obtain ⟨rfl, hP, hE⟩ := hv
  have hx := B.exec
  have hb := B.bytes
  have hr := B.returns
  have hts : ∀ w ∈ gW, w.before _ s = true := fun w h => atoms_spec (ws := w_Model_steps) B.pre w (List.mem_cons_of_mem _ h)
  have hown : s.vm.findClass R_Model = some m.cls := findClass_of_methodNamed B.named
  have hlocks := B.notSynchronized
  have hS : va_S (fun _ => False) s.heap s.heap [] := va_S.rf
  have hP : va_P D classes [(mo, .inr (4, [.int kd, .ref mp, .ref mq, .int (nI n), .ref mr, .ref mw, .ref mt, .ref ml, .ref mk, .ref mv, .int em, .int sp, .int rs])), (mp, .inl (cI, 64, .inl fo)), (mq, .inl (cI, 64, .inl fn)), (mr, .inl (cI, 576, .inl fR)), (mw, .inl (cZ, 64, .inl fW)), (mt, .inl (cI, 8, .inl fs)), (ml, .inl (cI, 4, .inl fl)), (mk, .inl (cI, 20, .inl fk)), (mv, .inl (cI, 20, .inl fv))] s.heap := hP
  have hl := lv_entry ([.ref mo]) (n := 1) (Nat.le_of_ble_eq_true rfl)
  rw [lg_entry_eq]
  generalize (lg_sl ([.ref mo]) ++ List.replicate (1 - (lg_sl ([.ref mo])).length) Slot.unset).toArray = ls at hl ⊢
  have hl : lv_has ls 1 [(0, .ref mo)] := hl
  refine lv_aload_n hx hb d_Model_steps_0 rfl (lv_at hl 0 rfl) ?_
  refine va_get (D := D) (ci := 4) (v := .int sp) (C := R_Model) (T := F_Model) (N := 13) hx hb hts in_Model hown hE.1 hP 0 rfl rfl 11 (by decide) (hts _ k_327) (fun _ h9 => h9) rfl d_Model_steps_1 ?_
  refine W.iret hx hb hr (fun t ht hW => ⟨_, rfl, ?_, ht⟩) (fun q h => by cases h) d_Model_steps_4
  show sp = sp
  rfl
set_option maxHeartbeats 4000000 in
set_option maxRecDepth 100000 in
theorem c_Model_pairs (l : Launch) (D : va_G) (cI cZ : ClassId) (mo mp mq mr mw mt ml mk mv : Nat) (kd : Int32) (n : Nat) (fo fn fR fW fs fl fk fv : Nat → Int32) (em sp rs : Int32) : Met l y_Model_pairs w_Model_pairs (rmk 0) (va_Pc [.ref mo] (PY D cI cZ [(mo, .inr (4, [.int kd, .ref mp, .ref mq, .int (nI n), .ref mr, .ref mw, .ref mt, .ref ml, .ref mk, .ref mv, .int em, .int sp, .int rs])), (mp, .inl (cI, 64, .inl fo)), (mq, .inl (cI, 64, .inl fn)), (mr, .inl (cI, 576, .inl fR)), (mw, .inl (cZ, 64, .inl fW)), (mt, .inl (cI, 8, .inl fs)), (ml, .inl (cI, 4, .inl fl)), (mk, .inl (cI, 20, .inl fk)), (mv, .inl (cI, 20, .inl fv))])) (vp_Si (fun r => r = em)) 0 0 (fun _ => False) := by
  refine Met.ofW (cc := b_Model_pairs) (maxL := 1) (ret := (some .int)) (by decide) rfl ?_
  intro p e s m args below meth c s₁ B hml hv
  obtain ⟨rfl, hP, hE⟩ := hv
  have hx := B.exec
  have hb := B.bytes
  have hr := B.returns
  have hts : ∀ w ∈ gW, w.before _ s = true := fun w h => atoms_spec (ws := w_Model_pairs) B.pre w (List.mem_cons_of_mem _ h)
  have hown : s.vm.findClass R_Model = some m.cls := findClass_of_methodNamed B.named
  have hlocks := B.notSynchronized
  have hS : va_S (fun _ => False) s.heap s.heap [] := va_S.rf
  have hP : va_P D classes [(mo, .inr (4, [.int kd, .ref mp, .ref mq, .int (nI n), .ref mr, .ref mw, .ref mt, .ref ml, .ref mk, .ref mv, .int em, .int sp, .int rs])), (mp, .inl (cI, 64, .inl fo)), (mq, .inl (cI, 64, .inl fn)), (mr, .inl (cI, 576, .inl fR)), (mw, .inl (cZ, 64, .inl fW)), (mt, .inl (cI, 8, .inl fs)), (ml, .inl (cI, 4, .inl fl)), (mk, .inl (cI, 20, .inl fk)), (mv, .inl (cI, 20, .inl fv))] s.heap := hP
  have hl := lv_entry ([.ref mo]) (n := 1) (Nat.le_of_ble_eq_true rfl)
  rw [lg_entry_eq]
  generalize (lg_sl ([.ref mo]) ++ List.replicate (1 - (lg_sl ([.ref mo])).length) Slot.unset).toArray = ls at hl ⊢
  have hl : lv_has ls 1 [(0, .ref mo)] := hl
  refine lv_aload_n hx hb d_Model_pairs_0 rfl (lv_at hl 0 rfl) ?_
  refine va_get (D := D) (ci := 4) (v := .int em) (C := R_Model) (T := F_Model) (N := 13) hx hb hts in_Model hown hE.1 hP 0 rfl rfl 10 (by decide) (hts _ k_326) (fun _ h9 => h9) rfl d_Model_pairs_1 ?_
  refine W.iret hx hb hr (fun t ht hW => ⟨_, rfl, ?_, ht⟩) (fun q h => by cases h) d_Model_pairs_4
  show em = em
  rfl
set_option maxHeartbeats 4000000 in
set_option maxRecDepth 100000 in
theorem c_Model_reach (l : Launch) (D : va_G) (cI cZ : ClassId) (hz : Nat) (mo mp mq mr mw mt ml mk mv : Nat) (kd : Int32) (n : Nat) (fo fn fR fW fs fl fk fv : Nat → Int32) (em sp rs : Int32) (a b : Nat) (ha : a < 64) (hb9 : b < 9) : Met l y_Model_reach w_Model_reach (rmk 0) (va_Pc [.ref mo, .int (nI a), .int (nI b)] (MY D cI cZ [(mo, .inr (4, [.int kd, .ref mp, .ref mq, .int (nI n), .ref mr, .ref mw, .ref mt, .ref ml, .ref mk, .ref mv, .int em, .int sp, .int rs])), (mp, .inl (cI, 64, .inl fo)), (mq, .inl (cI, 64, .inl fn)), (mr, .inl (cI, 576, .inl fR)), (mw, .inl (cZ, 64, .inl fW)), (mt, .inl (cI, 8, .inl fs)), (ml, .inl (cI, 4, .inl fl)), (mk, .inl (cI, 20, .inl fk)), (mv, .inl (cI, 20, .inl fv))] hz)) (va_Qv (fun u : Nat → Int32 => u = v_rch fR a b) (fun u t => ME D (va_A [(mo, .inr (4, [.int kd, .ref mp, .ref mq, .int (nI n), .ref mr, .ref mw, .ref mt, .ref ml, .ref mk, .ref mv, .int em, .int sp, .int rs])), (mp, .inl (cI, 64, .inl fo)), (mq, .inl (cI, 64, .inl fn)), (mr, .inl (cI, 576, .inl fR)), (mw, .inl (cZ, 64, .inl fW)), (mt, .inl (cI, 8, .inl fs)), (ml, .inl (cI, 4, .inl fl)), (mk, .inl (cI, 20, .inl fk)), (mv, .inl (cI, 20, .inl fv))] hz) [(mo, .inr (4, [.int kd, .ref mp, .ref mq, .int (nI n), .ref mr, .ref mw, .ref mt, .ref ml, .ref mk, .ref mv, .int em, .int sp, .int rs])), (mp, .inl (cI, 64, .inl fo)), (mq, .inl (cI, 64, .inl fn)), (mr, .inl (cI, 576, .inl u)), (mw, .inl (cZ, 64, .inl fW)), (mt, .inl (cI, 8, .inl fs)), (ml, .inl (cI, 4, .inl fl)), (mk, .inl (cI, 20, .inl fk)), (mv, .inl (cI, 20, .inl fv))] t) (va_A [(mo, .inr (4, [.int kd, .ref mp, .ref mq, .int (nI n), .ref mr, .ref mw, .ref mt, .ref ml, .ref mk, .ref mv, .int em, .int sp, .int rs])), (mp, .inl (cI, 64, .inl fo)), (mq, .inl (cI, 64, .inl fn)), (mr, .inl (cI, 576, .inl fR)), (mw, .inl (cZ, 64, .inl fW)), (mt, .inl (cI, 8, .inl fs)), (ml, .inl (cI, 4, .inl fl)), (mk, .inl (cI, 20, .inl fk)), (mv, .inl (cI, 20, .inl fv))] hz)) 0 0 (va_A [(mo, .inr (4, [.int kd, .ref mp, .ref mq, .int (nI n), .ref mr, .ref mw, .ref mt, .ref ml, .ref mk, .ref mv, .int em, .int sp, .int rs])), (mp, .inl (cI, 64, .inl fo)), (mq, .inl (cI, 64, .inl fn)), (mr, .inl (cI, 576, .inl fR)), (mw, .inl (cZ, 64, .inl fW)), (mt, .inl (cI, 8, .inl fs)), (ml, .inl (cI, 4, .inl fl)), (mk, .inl (cI, 20, .inl fk)), (mv, .inl (cI, 20, .inl fv))] hz) := by
  refine Met.ofW (cc := b_Model_reach) (maxL := 3) (ret := none) (by decide) rfl ?_
  intro p e s m args below meth c s₁ B hml hv
  obtain ⟨rfl, hsz, hP, hE, hD0⟩ := hv
  have hx := B.exec
  have hb := B.bytes
  have hr := B.returns
  have hts : ∀ w ∈ gW, w.before _ s = true := fun w h => atoms_spec (ws := w_Model_reach) B.pre w (List.mem_cons_of_mem _ h)
  have hown : s.vm.findClass R_Model = some m.cls := findClass_of_methodNamed B.named
  have hlocks := B.notSynchronized
  subst hsz
  have hD := hD0.self (sz := s.heap.size)
  have hA : ∀ q : Nat, s.heap.size ≤ q → va_A [(mo, .inr (4, [.int kd, .ref mp, .ref mq, .int (nI n), .ref mr, .ref mw, .ref mt, .ref ml, .ref mk, .ref mv, .int em, .int sp, .int rs])), (mp, .inl (cI, 64, .inl fo)), (mq, .inl (cI, 64, .inl fn)), (mr, .inl (cI, 576, .inl fR)), (mw, .inl (cZ, 64, .inl fW)), (mt, .inl (cI, 8, .inl fs)), (ml, .inl (cI, 4, .inl fl)), (mk, .inl (cI, 20, .inl fk)), (mv, .inl (cI, 20, .inl fv))] s.heap.size q := fun q h => Or.inr h
  generalize va_A [(mo, .inr (4, [.int kd, .ref mp, .ref mq, .int (nI n), .ref mr, .ref mw, .ref mt, .ref ml, .ref mk, .ref mv, .int em, .int sp, .int rs])), (mp, .inl (cI, 64, .inl fo)), (mq, .inl (cI, 64, .inl fn)), (mr, .inl (cI, 576, .inl fR)), (mw, .inl (cZ, 64, .inl fW)), (mt, .inl (cI, 8, .inl fs)), (ml, .inl (cI, 4, .inl fl)), (mk, .inl (cI, 20, .inl fk)), (mv, .inl (cI, 20, .inl fv))] s.heap.size = A at hD hA ⊢
  have hS : va_S A s.heap s.heap [] := va_S.rf
  have hP : va_P D classes [(mo, .inr (4, [.int kd, .ref mp, .ref mq, .int (nI n), .ref mr, .ref mw, .ref mt, .ref ml, .ref mk, .ref mv, .int em, .int sp, .int rs])), (mp, .inl (cI, 64, .inl fo)), (mq, .inl (cI, 64, .inl fn)), (mr, .inl (cI, 576, .inl fR)), (mw, .inl (cZ, 64, .inl fW)), (mt, .inl (cI, 8, .inl fs)), (ml, .inl (cI, 4, .inl fl)), (mk, .inl (cI, 20, .inl fk)), (mv, .inl (cI, 20, .inl fv))] s.heap := hP
  have hD : va_D A [(mo, .inr (4, [.int kd, .ref mp, .ref mq, .int (nI n), .ref mr, .ref mw, .ref mt, .ref ml, .ref mk, .ref mv, .int em, .int sp, .int rs])), (mp, .inl (cI, 64, .inl fo)), (mq, .inl (cI, 64, .inl fn)), (mr, .inl (cI, 576, .inl fR)), (mw, .inl (cZ, 64, .inl fW)), (mt, .inl (cI, 8, .inl fs)), (ml, .inl (cI, 4, .inl fl)), (mk, .inl (cI, 20, .inl fk)), (mv, .inl (cI, 20, .inl fv))] := hD
  have hl := lv_entry ([.ref mo, .int (nI a), .int (nI b)]) (n := 3) (Nat.le_of_ble_eq_true rfl)
  rw [lg_entry_eq]
  generalize (lg_sl ([.ref mo, .int (nI a), .int (nI b)]) ++ List.replicate (3 - (lg_sl ([.ref mo, .int (nI a), .int (nI b)])).length) Slot.unset).toArray = ls at hl ⊢
  have hl : lv_has ls 3 [(0, .ref mo), (1, .int (nI a)), (2, .int (nI b))] := hl
  refine lv_aload_n hx hb d_Model_reach_0 rfl (lv_at hl 0 rfl) ?_
  refine va_get (D := D) (ci := 4) (v := .ref mr) (C := R_Model) (T := F_Model) (N := 13) hx hb hts in_Model hown hE.1 hP 0 rfl rfl 4 (by decide) (hts _ k_320) (fun _ h9 => h9) rfl d_Model_reach_1 ?_
  refine lv_bipush (v := 9) hx hb d_Model_reach_4 (by decide) ?_
  refine lv_iload_n hx hb d_Model_reach_6 rfl (lv_at hl 1 rfl) ?_
  refine lv_imul hx hb d_Model_reach_7 ?_
  refine lv_iload_n hx hb d_Model_reach_8 rfl (lv_at hl 2 rfl) ?_
  refine lv_iadd hx hb d_Model_reach_9 ?_
  refine lv_eqi (y := (nI (9 * a + b))) (ix9 a b) ?_
  refine va_iald hx hb hE.1 hP 3 0 rfl rfl (vp_in_nI (by omega) (by decide)) d_Model_reach_10 ?_
  refine lv_eqi (y := fR (9 * a + b)) (congrArg fR (nI_clamp (show (9 * a + b) < 2 ^ 31 by omega))) ?_
  refine lv_if_ne (tgt := 26) hx hb d_Model_reach_11 (by decide) (fun h1 => ?_) (fun h1 => ?_)
  · -- ¬ (fR (9 * a + b)) = 0
    refine W.vret hx hb hr (fun t ht hW => ⟨⟨fR, rfl, ?_, ?_⟩, hS.F ht⟩) hS.2.2 d_Model_reach_26
    · first | (simp only [v_rch, h1, if_true, if_false, eq_self, not_true_eq_false, not_false_eq_true, ne_eq]; done) | (simp only [v_rch, h1, if_true, if_false, eq_self, not_true_eq_false, not_false_eq_true, ne_eq]; rfl) | (simp [v_rch, h1]; done)
    · exact ⟨by rw [ht]; exact hP.sub [0, 1, 2, 3, 4, 5, 6, 7, 8] rfl, hD.sub [0, 1, 2, 3, 4, 5, 6, 7, 8] (by decide) rfl⟩
  · -- (fR (9 * a + b)) = 0
    refine lv_aload_n hx hb d_Model_reach_14 rfl (lv_at hl 0 rfl) ?_
    refine va_get (D := D) (ci := 4) (v := .ref mr) (C := R_Model) (T := F_Model) (N := 13) hx hb hts in_Model hown hE.1 hP 0 rfl rfl 4 (by decide) (hts _ k_320) (fun _ h9 => h9) rfl d_Model_reach_15 ?_
    refine lv_bipush (v := 9) hx hb d_Model_reach_18 (by decide) ?_
    refine lv_iload_n hx hb d_Model_reach_20 rfl (lv_at hl 1 rfl) ?_
    refine lv_imul hx hb d_Model_reach_21 ?_
    refine lv_iload_n hx hb d_Model_reach_22 rfl (lv_at hl 2 rfl) ?_
    refine lv_iadd hx hb d_Model_reach_23 ?_
    refine lv_eqi (y := (nI (9 * a + b))) (ix9 a b) ?_
    refine lv_iconst (v := 1) hx hb d_Model_reach_24 (by decide) ?_
    refine va_iast hx hb hE.1 hP hD hS 3 0 rfl rfl (vp_in_nI (by omega) (by decide)) d_Model_reach_25 (fun H locs hP hD hS => ?_)
    rw [nI_clamp (show (9 * a + b) < 2 ^ 31 by omega)] at hP hD
    have hP : va_P D classes [(mo, .inr (4, [.int kd, .ref mp, .ref mq, .int (nI n), .ref mr, .ref mw, .ref mt, .ref ml, .ref mk, .ref mv, .int em, .int sp, .int rs])), (mp, .inl (cI, 64, .inl fo)), (mq, .inl (cI, 64, .inl fn)), (mr, .inl (cI, 576, .inl (upd fR (9 * a + b) 1))), (mw, .inl (cZ, 64, .inl fW)), (mt, .inl (cI, 8, .inl fs)), (ml, .inl (cI, 4, .inl fl)), (mk, .inl (cI, 20, .inl fk)), (mv, .inl (cI, 20, .inl fv))] H := hP
    have hD : va_D A [(mo, .inr (4, [.int kd, .ref mp, .ref mq, .int (nI n), .ref mr, .ref mw, .ref mt, .ref ml, .ref mk, .ref mv, .int em, .int sp, .int rs])), (mp, .inl (cI, 64, .inl fo)), (mq, .inl (cI, 64, .inl fn)), (mr, .inl (cI, 576, .inl (upd fR (9 * a + b) 1))), (mw, .inl (cZ, 64, .inl fW)), (mt, .inl (cI, 8, .inl fs)), (ml, .inl (cI, 4, .inl fl)), (mk, .inl (cI, 20, .inl fk)), (mv, .inl (cI, 20, .inl fv))] := hD
    refine W.vret hx hb hr (fun t ht hW => ⟨⟨(upd fR (9 * a + b) 1), rfl, ?_, ?_⟩, hS.F ht⟩) hS.2.2 d_Model_reach_26
    · first | (simp only [v_rch, h1, if_true, if_false, eq_self, not_true_eq_false, not_false_eq_true, ne_eq]; done) | (simp only [v_rch, h1, if_true, if_false, eq_self, not_true_eq_false, not_false_eq_true, ne_eq]; rfl) | (simp [v_rch, h1]; done)
    · exact ⟨by rw [ht]; exact hP.sub [0, 1, 2, 3, 4, 5, 6, 7, 8] rfl, hD.sub [0, 1, 2, 3, 4, 5, 6, 7, 8] (by decide) rfl⟩
set_option maxHeartbeats 4000000 in
set_option maxRecDepth 100000 in
theorem c_Model_goOn (l : Launch) (D : va_G) (cI cZ : ClassId) (hz : Nat) (mo mp mq mr mw mt ml mk mv : Nat) (kd : Int32) (n : Nat) (fo fn fR fW fs fl fk fv : Nat → Int32) (em sp rs : Int32) (a b : Nat) (hk : kd = 0 ∨ kd = 1 ∨ kd = 2 ∨ kd = 3) (hn : n ≤ 64) (ha : a < n) (hb9 : b < 9) : Met l y_Model_goOn w_Model_goOn (rmk 1) (va_Pc [.ref mo, .int (nI a), .int (nI b)] (MY D cI cZ [(mo, .inr (4, [.int kd, .ref mp, .ref mq, .int (nI n), .ref mr, .ref mw, .ref mt, .ref ml, .ref mk, .ref mv, .int em, .int sp, .int rs])), (mp, .inl (cI, 64, .inl fo)), (mq, .inl (cI, 64, .inl fn)), (mr, .inl (cI, 576, .inl fR)), (mw, .inl (cZ, 64, .inl fW)), (mt, .inl (cI, 8, .inl fs)), (ml, .inl (cI, 4, .inl fl)), (mk, .inl (cI, 20, .inl fk)), (mv, .inl (cI, 20, .inl fv))] hz)) (va_Qv (fun u : (Nat → Int32) × (Nat → Int32) => GoR kd (acOf kd) n fo fn a b fR fW u) (fun u t => ME D (va_A [(mo, .inr (4, [.int kd, .ref mp, .ref mq, .int (nI n), .ref mr, .ref mw, .ref mt, .ref ml, .ref mk, .ref mv, .int em, .int sp, .int rs])), (mp, .inl (cI, 64, .inl fo)), (mq, .inl (cI, 64, .inl fn)), (mr, .inl (cI, 576, .inl fR)), (mw, .inl (cZ, 64, .inl fW)), (mt, .inl (cI, 8, .inl fs)), (ml, .inl (cI, 4, .inl fl)), (mk, .inl (cI, 20, .inl fk)), (mv, .inl (cI, 20, .inl fv))] hz) [(mo, .inr (4, [.int kd, .ref mp, .ref mq, .int (nI n), .ref mr, .ref mw, .ref mt, .ref ml, .ref mk, .ref mv, .int em, .int sp, .int rs])), (mp, .inl (cI, 64, .inl fo)), (mq, .inl (cI, 64, .inl fn)), (mr, .inl (cI, 576, .inl u.1)), (mw, .inl (cZ, 64, .inl u.2)), (mt, .inl (cI, 8, .inl fs)), (ml, .inl (cI, 4, .inl fl)), (mk, .inl (cI, 20, .inl fk)), (mv, .inl (cI, 20, .inl fv))] t) (va_A [(mo, .inr (4, [.int kd, .ref mp, .ref mq, .int (nI n), .ref mr, .ref mw, .ref mt, .ref ml, .ref mk, .ref mv, .int em, .int sp, .int rs])), (mp, .inl (cI, 64, .inl fo)), (mq, .inl (cI, 64, .inl fn)), (mr, .inl (cI, 576, .inl fR)), (mw, .inl (cZ, 64, .inl fW)), (mt, .inl (cI, 8, .inl fs)), (ml, .inl (cI, 4, .inl fl)), (mk, .inl (cI, 20, .inl fk)), (mv, .inl (cI, 20, .inl fv))] hz)) 0 0 (va_A [(mo, .inr (4, [.int kd, .ref mp, .ref mq, .int (nI n), .ref mr, .ref mw, .ref mt, .ref ml, .ref mk, .ref mv, .int em, .int sp, .int rs])), (mp, .inl (cI, 64, .inl fo)), (mq, .inl (cI, 64, .inl fn)), (mr, .inl (cI, 576, .inl fR)), (mw, .inl (cZ, 64, .inl fW)), (mt, .inl (cI, 8, .inl fs)), (ml, .inl (cI, 4, .inl fl)), (mk, .inl (cI, 20, .inl fk)), (mv, .inl (cI, 20, .inl fv))] hz) := by
  refine Met.ofW (cc := b_Model_goOn) (maxL := 6) (ret := none) (by decide) rfl ?_
  intro p e s m args below meth c s₁ B hml hv
  obtain ⟨rfl, hsz, hP, hE, hD0⟩ := hv
  have hx := B.exec
  have hb := B.bytes
  have hr := B.returns
  have hts : ∀ w ∈ gW, w.before _ s = true := fun w h => atoms_spec (ws := w_Model_goOn) B.pre w (List.mem_cons_of_mem _ h)
  have hown : s.vm.findClass R_Model = some m.cls := findClass_of_methodNamed B.named
  have hlocks := B.notSynchronized
  subst hsz
  have hD := hD0.self (sz := s.heap.size)
  have hA : ∀ q : Nat, s.heap.size ≤ q → va_A [(mo, .inr (4, [.int kd, .ref mp, .ref mq, .int (nI n), .ref mr, .ref mw, .ref mt, .ref ml, .ref mk, .ref mv, .int em, .int sp, .int rs])), (mp, .inl (cI, 64, .inl fo)), (mq, .inl (cI, 64, .inl fn)), (mr, .inl (cI, 576, .inl fR)), (mw, .inl (cZ, 64, .inl fW)), (mt, .inl (cI, 8, .inl fs)), (ml, .inl (cI, 4, .inl fl)), (mk, .inl (cI, 20, .inl fk)), (mv, .inl (cI, 20, .inl fv))] s.heap.size q := fun q h => Or.inr h
  generalize va_A [(mo, .inr (4, [.int kd, .ref mp, .ref mq, .int (nI n), .ref mr, .ref mw, .ref mt, .ref ml, .ref mk, .ref mv, .int em, .int sp, .int rs])), (mp, .inl (cI, 64, .inl fo)), (mq, .inl (cI, 64, .inl fn)), (mr, .inl (cI, 576, .inl fR)), (mw, .inl (cZ, 64, .inl fW)), (mt, .inl (cI, 8, .inl fs)), (ml, .inl (cI, 4, .inl fl)), (mk, .inl (cI, 20, .inl fk)), (mv, .inl (cI, 20, .inl fv))] s.heap.size = A at hD hA ⊢
  have hS : va_S A s.heap s.heap [] := va_S.rf
  have hP : va_P D classes [(mo, .inr (4, [.int kd, .ref mp, .ref mq, .int (nI n), .ref mr, .ref mw, .ref mt, .ref ml, .ref mk, .ref mv, .int em, .int sp, .int rs])), (mp, .inl (cI, 64, .inl fo)), (mq, .inl (cI, 64, .inl fn)), (mr, .inl (cI, 576, .inl fR)), (mw, .inl (cZ, 64, .inl fW)), (mt, .inl (cI, 8, .inl fs)), (ml, .inl (cI, 4, .inl fl)), (mk, .inl (cI, 20, .inl fk)), (mv, .inl (cI, 20, .inl fv))] s.heap := hP
  have hD : va_D A [(mo, .inr (4, [.int kd, .ref mp, .ref mq, .int (nI n), .ref mr, .ref mw, .ref mt, .ref ml, .ref mk, .ref mv, .int em, .int sp, .int rs])), (mp, .inl (cI, 64, .inl fo)), (mq, .inl (cI, 64, .inl fn)), (mr, .inl (cI, 576, .inl fR)), (mw, .inl (cZ, 64, .inl fW)), (mt, .inl (cI, 8, .inl fs)), (ml, .inl (cI, 4, .inl fl)), (mk, .inl (cI, 20, .inl fk)), (mv, .inl (cI, 20, .inl fv))] := hD
  have hl := lv_entry ([.ref mo, .int (nI a), .int (nI b)]) (n := 6) (Nat.le_of_ble_eq_true rfl)
  rw [lg_entry_eq]
  generalize (lg_sl ([.ref mo, .int (nI a), .int (nI b)]) ++ List.replicate (6 - (lg_sl ([.ref mo, .int (nI a), .int (nI b)])).length) Slot.unset).toArray = ls at hl ⊢
  have hl : lv_has ls 6 [(0, .ref mo), (1, .int (nI a)), (2, .int (nI b))] := hl
  refine lv_aload_n hx hb d_Model_goOn_0 rfl (lv_at hl 0 rfl) ?_
  refine lv_iload_n hx hb d_Model_goOn_1 rfl (lv_at hl 1 rfl) ?_
  refine vp_callSi (va_Run.run (va_runV (As := [.int (nI a)]) (rest := []) ⟨hx, hb, hml, hown, hts⟩ (c_Model_isBad l D cI cZ mo mp mq mr mw mt ml mk mv kd n fo fn fR fW fs fl fk fv em sp rs a (by omega)) (cwV 1 hts (gd4 k_377 k_379 k_12 k_22 k_380) rfl rfl rfl (by decide +kernel) ⟨Nat.le_of_ble_eq_true rfl, Nat.le_of_ble_eq_true rfl⟩) ⟨PY_blind, va_recv (q0 := 0) (ci := 4) hE.1 hP rfl rfl, py_pre hE (hP.sub [0, 1, 2, 3, 4, 5, 6, 7, 8] rfl)⟩ rfl rfl hl.1 rfl (lv_room (Nat.le_of_ble_eq_true rfl)) d_Model_goOn_2 ⟨Nat.zero_le _, Nat.zero_le _⟩)) (fun r hq => ?_)
  subst hq
  refine lv_if_eq (tgt := 9) hx hb d_Model_goOn_5 (by decide) (fun h1 => ?_) (fun h1 => ?_)
  · -- (v_bad kd (nI n) (fo a) (fn a)) = 0
    have hwf : ¬ p_wf kd (nI n) (acOf kd) fo fn (nI a) = 0 := by rw [wf_wfb (by omega)]; exact (bad_wf hk (nI_ne_m1 (by omega))).mp h1
    obtain ⟨o, ho, eo⟩ := isOf_o (wf_isOf hwf)
    rw [rd_in fo (by omega) (by omega)] at eo
    have hgr : v_grow (fo a) = o_grow (fo a) := by rw [eo]; exact grow_eq o ho
    have hne : v_needs kd (fo a) = o_needs (fo a) kd := by rw [eo]; exact needs_eq kd ho
    refine lv_aload_n hx hb d_Model_goOn_9 rfl (lv_at hl 0 rfl) ?_
    refine va_get (D := D) (ci := 4) (v := .ref mp) (C := R_Model) (T := F_Model) (N := 13) hx hb hts in_Model hown hE.1 hP 0 rfl rfl 1 (by decide) (hts _ k_317) (fun _ h9 => h9) rfl d_Model_goOn_10 ?_
    refine lv_iload_n hx hb d_Model_goOn_13 rfl (lv_at hl 1 rfl) ?_
    refine va_iald hx hb hE.1 hP 1 0 rfl rfl (vp_in_nI (by omega) (by decide)) d_Model_goOn_14 ?_
    refine lv_eqi (y := fo a) (congrArg fo (nI_clamp (show a < 2 ^ 31 by omega))) ?_
    refine lv_istore_n hx hb d_Model_goOn_15 rfl hl (by decide) rfl (fun ls hl => ?_)
    have hl : lv_has ls 6 [(3, .int (fo a)), (0, .ref mo), (1, .int (nI a)), (2, .int (nI b))] := hl
    refine lv_iload_n hx hb d_Model_goOn_16 rfl (lv_at hl 3 rfl) ?_
    refine lv_iload_n hx hb d_Model_goOn_17 rfl (lv_at hl 0 rfl) ?_
    refine vp_callSi (va_Run.run (va_runS (As := [.int (fo a)]) (rest := [.int (nI b)]) ⟨hx, hb, hml, hown, hts⟩ (c_Model_grows l (fo a)) (cwS 1 hts (gd3 k_385 k_386 k_22 k_387) rfl rfl rfl (by decide +kernel) ⟨Nat.le_of_ble_eq_true rfl, Nat.le_of_ble_eq_true rfl⟩) ⟨fun _ _ _ _ q => q, fun _ _ _ => ⟨rfl, trivial⟩⟩ rfl rfl hl.1 rfl (lv_room (Nat.le_of_ble_eq_true rfl)) d_Model_goOn_18 ⟨Nat.zero_le _, Nat.zero_le _⟩)) (fun r hq => ?_)
    subst hq
    refine lv_eqi (y := (o_grow (fo a))) (hgr) ?_
    refine lv_iadd hx hb d_Model_goOn_21 ?_
    refine lv_istore hx hb d_Model_goOn_22 hl (by decide) rfl (fun ls hl => ?_)
    have hl : lv_has ls 6 [(4, .int ((nI b) + (o_grow (fo a)))), (3, .int (fo a)), (0, .ref mo), (1, .int (nI a)), (2, .int (nI b))] := hl
    refine lv_iload_n hx hb d_Model_goOn_24 rfl (lv_at hl 1 rfl) ?_
    refine lv_bipush (v := 14) hx hb d_Model_goOn_25 (by decide) ?_
    refine lv_icmp_eq (tgt := 46) hx hb d_Model_goOn_27 (by decide) (fun h2 => ?_) (fun h2 => ?_)
    · -- (fo a) = 14
      refine lv_iconst (v := 0) hx hb d_Model_goOn_46 (by decide) ?_
      have hnx : o_next (fo a) = 0 := by
        first | (simp only [o_next, h2, if_true, if_false, eq_self, not_true_eq_false, not_false_eq_true, ne_eq]; done) | (simp only [o_next, h2, if_true, if_false, eq_self, not_true_eq_false, not_false_eq_true, ne_eq]; decide)
      refine lv_istore hx hb d_Model_goOn_47 hl (by decide) rfl (fun ls hl => ?_)
      have hl : lv_has ls 6 [(5, .int 0), (4, .int ((nI b) + (o_grow (fo a)))), (3, .int (fo a)), (0, .ref mo), (1, .int (nI a)), (2, .int (nI b))] := hl
      refine lv_iload_n hx hb d_Model_goOn_49 rfl (lv_at hl 5 rfl) ?_
      refine lv_aload_n hx hb d_Model_goOn_50 rfl (lv_at hl 3 rfl) ?_
      refine lv_iload_n hx hb d_Model_goOn_51 rfl (lv_at hl 2 rfl) ?_
      refine vp_callSi (va_Run.run (va_runV (As := [.int (fo a)]) (rest := [.int (nI b)]) ⟨hx, hb, hml, hown, hts⟩ (c_Model_needs l D cI cZ mo mp mq mr mw mt ml mk mv kd n fo fn fR fW fs fl fk fv em sp rs (fo a)) (cwV 1 hts (gd4 k_388 k_390 k_14 k_22 k_391) rfl rfl rfl (by decide +kernel) ⟨Nat.le_of_ble_eq_true rfl, Nat.le_of_ble_eq_true rfl⟩) ⟨PY_blind, va_recv (q0 := 0) (ci := 4) hE.1 hP rfl rfl, py_pre hE (hP.sub [0, 1, 2, 3, 4, 5, 6, 7, 8] rfl)⟩ rfl rfl hl.1 rfl (lv_room (Nat.le_of_ble_eq_true rfl)) d_Model_goOn_52 ⟨Nat.zero_le _, Nat.zero_le _⟩)) (fun r hq => ?_)
      subst hq
      refine lv_eqi (y := (o_needs (fo a) kd)) (hne) ?_
      refine lv_icmp_lt (tgt := 80) hx hb d_Model_goOn_55 (by decide) (fun h3 => ?_) (fun h3 => ?_)
      · -- (nI b) < (o_needs (fo a) kd)
        refine lv_aload_n hx hb d_Model_goOn_80 rfl (lv_at hl 3 rfl) ?_
        refine va_get (D := D) (ci := 4) (v := .ref mw) (C := R_Model) (T := F_Model) (N := 13) hx hb hts in_Model hown hE.1 hP 0 rfl rfl 5 (by decide) (hts _ k_321) (fun _ h9 => h9) rfl d_Model_goOn_81 ?_
        refine lv_iload_n hx hb d_Model_goOn_84 rfl (lv_at hl 4 rfl) ?_
        refine lv_iconst (v := 1) hx hb d_Model_goOn_85 (by decide) ?_
        refine va_zast hx hb hE.1 hP hD hS 4 1 rfl rfl (vp_in_nI (by omega) (by decide)) d_Model_goOn_86 (fun H locs hP hD hS => ?_)
        rw [nI_clamp (show a < 2 ^ 31 by omega)] at hP hD
        have hP : va_P D classes [(mo, .inr (4, [.int kd, .ref mp, .ref mq, .int (nI n), .ref mr, .ref mw, .ref mt, .ref ml, .ref mk, .ref mv, .int em, .int sp, .int rs])), (mp, .inl (cI, 64, .inl fo)), (mq, .inl (cI, 64, .inl fn)), (mr, .inl (cI, 576, .inl fR)), (mw, .inl (cZ, 64, .inl (upd fW a 1))), (mt, .inl (cI, 8, .inl fs)), (ml, .inl (cI, 4, .inl fl)), (mk, .inl (cI, 20, .inl fk)), (mv, .inl (cI, 20, .inl fv))] H := hP
        have hD : va_D A [(mo, .inr (4, [.int kd, .ref mp, .ref mq, .int (nI n), .ref mr, .ref mw, .ref mt, .ref ml, .ref mk, .ref mv, .int em, .int sp, .int rs])), (mp, .inl (cI, 64, .inl fo)), (mq, .inl (cI, 64, .inl fn)), (mr, .inl (cI, 576, .inl fR)), (mw, .inl (cZ, 64, .inl (upd fW a 1))), (mt, .inl (cI, 8, .inl fs)), (ml, .inl (cI, 4, .inl fl)), (mk, .inl (cI, 20, .inl fk)), (mv, .inl (cI, 20, .inl fv))] := hD
        refine W.vret hx hb hr (fun t ht hW => ⟨⟨(fR, (upd fW a 1)), rfl, ?_, ?_⟩, hS.F ht⟩) hS.2.2 d_Model_goOn_87
        · exact Or.inr (Or.inl ⟨hwf, fun q => q (cbd0_fit (by omega) (fit0_needs h3)), rfl⟩)
        · exact ⟨by rw [ht]; exact hP.sub [0, 1, 2, 3, 4, 5, 6, 7, 8] rfl, hD.sub [0, 1, 2, 3, 4, 5, 6, 7, 8] (by decide) rfl⟩
      · -- ¬ (nI b) < (o_needs (fo a) kd)
        refine lv_iload hx hb d_Model_goOn_58 (lv_at hl 1 rfl) ?_
        refine lv_bipush (v := 8) hx hb d_Model_goOn_60 (by decide) ?_
        refine lv_icmp_gt (tgt := 80) hx hb d_Model_goOn_62 (by decide) (fun h4 => ?_) (fun h4 => ?_)
        · -- 8 < ((nI b) + (o_grow (fo a)))
          refine lv_aload_n hx hb d_Model_goOn_80 rfl (lv_at hl 3 rfl) ?_
          refine va_get (D := D) (ci := 4) (v := .ref mw) (C := R_Model) (T := F_Model) (N := 13) hx hb hts in_Model hown hE.1 hP 0 rfl rfl 5 (by decide) (hts _ k_321) (fun _ h9 => h9) rfl d_Model_goOn_81 ?_
          refine lv_iload_n hx hb d_Model_goOn_84 rfl (lv_at hl 4 rfl) ?_
          refine lv_iconst (v := 1) hx hb d_Model_goOn_85 (by decide) ?_
          refine va_zast hx hb hE.1 hP hD hS 4 1 rfl rfl (vp_in_nI (by omega) (by decide)) d_Model_goOn_86 (fun H locs hP hD hS => ?_)
          rw [nI_clamp (show a < 2 ^ 31 by omega)] at hP hD
          have hP : va_P D classes [(mo, .inr (4, [.int kd, .ref mp, .ref mq, .int (nI n), .ref mr, .ref mw, .ref mt, .ref ml, .ref mk, .ref mv, .int em, .int sp, .int rs])), (mp, .inl (cI, 64, .inl fo)), (mq, .inl (cI, 64, .inl fn)), (mr, .inl (cI, 576, .inl fR)), (mw, .inl (cZ, 64, .inl (upd fW a 1))), (mt, .inl (cI, 8, .inl fs)), (ml, .inl (cI, 4, .inl fl)), (mk, .inl (cI, 20, .inl fk)), (mv, .inl (cI, 20, .inl fv))] H := hP
          have hD : va_D A [(mo, .inr (4, [.int kd, .ref mp, .ref mq, .int (nI n), .ref mr, .ref mw, .ref mt, .ref ml, .ref mk, .ref mv, .int em, .int sp, .int rs])), (mp, .inl (cI, 64, .inl fo)), (mq, .inl (cI, 64, .inl fn)), (mr, .inl (cI, 576, .inl fR)), (mw, .inl (cZ, 64, .inl (upd fW a 1))), (mt, .inl (cI, 8, .inl fs)), (ml, .inl (cI, 4, .inl fl)), (mk, .inl (cI, 20, .inl fk)), (mv, .inl (cI, 20, .inl fv))] := hD
          refine W.vret hx hb hr (fun t ht hW => ⟨⟨(fR, (upd fW a 1)), rfl, ?_, ?_⟩, hS.F ht⟩) hS.2.2 d_Model_goOn_87
          · exact Or.inr (Or.inl ⟨hwf, fun q => q (cbd0_fit (by omega) (fit0_grow h4)), rfl⟩)
          · exact ⟨by rw [ht]; exact hP.sub [0, 1, 2, 3, 4, 5, 6, 7, 8] rfl, hD.sub [0, 1, 2, 3, 4, 5, 6, 7, 8] (by decide) rfl⟩
        · -- ¬ 8 < ((nI b) + (o_grow (fo a)))
          refine lv_iload hx hb d_Model_goOn_65 (lv_at hl 0 rfl) ?_
          refine lv_if_eq (tgt := 88) hx hb d_Model_goOn_67 (by decide) (fun h5 => ?_) (fun h5 => ?_)
          · -- 0 = 0
            have hc : cb kd (acOf kd) n fo fn a b := cbd1 hn ha hwf h3 h4 (Or.inl hnx)
            obtain ⟨-, ⟨h1, hh1, eh⟩, hxn, hjm⟩ := cb_facts hn ha hb9 hc
            rw [eh] at hl
            refine lv_iload hx hb d_Model_goOn_88 (lv_at hl 0 rfl) ?_
            refine lv_if_eq (tgt := 102) hx hb d_Model_goOn_90 (by decide) (fun h6 => ?_) (fun h6 => ?_)
            · -- 0 = 0
              refine lv_iload_n hx hb d_Model_goOn_102 rfl (lv_at hl 2 rfl) ?_
              refine lv_bipush (v := 14) hx hb d_Model_goOn_103 (by decide) ?_
              refine lv_icmp_eq (tgt := 114) hx hb d_Model_goOn_105 (by decide) (fun h7 => ?_) (fun h7 => ?_)
              · -- (fo a) = 14
                have hj0 : ¬ o_jump (fo a) = 0 := by
                  rw [h7]; decide
                obtain ⟨k1, hkk, ek⟩ := hjm hj0
                refine lv_aload_n hx hb d_Model_goOn_114 rfl (lv_at hl 3 rfl) ?_
                refine lv_aload_n hx hb d_Model_goOn_115 rfl (lv_at hl 3 rfl) ?_
                refine va_get (D := D) (ci := 4) (v := .ref mq) (C := R_Model) (T := F_Model) (N := 13) hx hb hts in_Model hown hE.1 hP 0 rfl rfl 2 (by decide) (hts _ k_318) (fun _ h9 => h9) rfl d_Model_goOn_116 ?_
                refine lv_iload_n hx hb d_Model_goOn_119 rfl (lv_at hl 4 rfl) ?_
                refine va_iald hx hb hE.1 hP 2 0 rfl rfl (vp_in_nI (by omega) (by decide)) d_Model_goOn_120 ?_
                refine lv_eqi (y := fn a) (congrArg fn (nI_clamp (show a < 2 ^ 31 by omega))) ?_
                refine lv_eqi (y := (nI k1)) (ek) ?_
                refine lv_iload hx hb d_Model_goOn_121 (lv_at hl 1 rfl) ?_
                have hPc := hP.sub (ws' := [(mo, .inr (4, [.int kd, .ref mp, .ref mq, .int (nI n), .ref mr, .ref mw, .ref mt, .ref ml, .ref mk, .ref mv, .int em, .int sp, .int rs])), (mp, .inl (cI, 64, .inl fo)), (mq, .inl (cI, 64, .inl fn)), (mr, .inl (cI, 576, .inl fR)), (mw, .inl (cZ, 64, .inl fW)), (mt, .inl (cI, 8, .inl fs)), (ml, .inl (cI, 4, .inl fl)), (mk, .inl (cI, 20, .inl fk)), (mv, .inl (cI, 20, .inl fv))]) [0, 1, 2, 3, 4, 5, 6, 7, 8] rfl
                have hDc := hD.sub (ws' := [(mo, .inr (4, [.int kd, .ref mp, .ref mq, .int (nI n), .ref mr, .ref mw, .ref mt, .ref ml, .ref mk, .ref mv, .int em, .int sp, .int rs])), (mp, .inl (cI, 64, .inl fo)), (mq, .inl (cI, 64, .inl fn)), (mr, .inl (cI, 576, .inl fR)), (mw, .inl (cZ, 64, .inl fW)), (mt, .inl (cI, 8, .inl fs)), (ml, .inl (cI, 4, .inl fl)), (mk, .inl (cI, 20, .inl fk)), (mv, .inl (cI, 20, .inl fv))]) [0, 1, 2, 3, 4, 5, 6, 7, 8] (by decide) rfl
                have hFc := va_free (wc := [(mo, .inr (4, [.int kd, .ref mp, .ref mq, .int (nI n), .ref mr, .ref mw, .ref mt, .ref ml, .ref mk, .ref mv, .int em, .int sp, .int rs])), (mp, .inl (cI, 64, .inl fo)), (mq, .inl (cI, 64, .inl fn)), (mr, .inl (cI, 576, .inl fR)), (mw, .inl (cZ, 64, .inl fW)), (mt, .inl (cI, 8, .inl fs)), (ml, .inl (cI, 4, .inl fl)), (mk, .inl (cI, 20, .inl fk)), (mv, .inl (cI, 20, .inl fv))]) hD hS hA [0, 1, 2, 3, 4, 5, 6, 7, 8] rfl
                refine va_callv (va_runV (As := [.int (nI k1), .int (nI h1)]) (rest := []) ⟨hx, hb, hml, hown, hts⟩ (c_Model_reach l D cI cZ s.heap.size mo mp mq mr mw mt ml mk mv kd n fo fn fR fW fs fl fk fv em sp rs k1 h1 (by omega) (by omega)) (cwV 2 hts (gd4 k_392 k_394 k_15 k_22 k_395) rfl rfl rfl (by decide +kernel) ⟨Nat.le_of_ble_eq_true rfl, Nat.le_of_ble_eq_true rfl⟩) ⟨MY_blind, va_recv (q0 := 0) (ci := 4) hE.1 hP rfl rfl, my_pre hE hPc hDc⟩ rfl rfl hl.1 rfl (lv_room (Nat.le_of_ble_eq_true rfl)) d_Model_goOn_123 ⟨Nat.zero_le _, Nat.zero_le _⟩) hS (fun q _ h => hFc q h) hFc (fun u t H1 locs ht hvm hw hB hz1 hk1 hS => ?_)
                obtain ⟨hP1, hD1⟩ := hB
                rw [ht] at hP1
                subst hw
                obtain ⟨hP, hD⟩ := va_join (wr := []) (w1 := [(mo, .inr (4, [.int kd, .ref mp, .ref mq, .int (nI n), .ref mr, .ref mw, .ref mt, .ref ml, .ref mk, .ref mv, .int em, .int sp, .int rs])), (mp, .inl (cI, 64, .inl fo)), (mq, .inl (cI, 64, .inl fn)), (mr, .inl (cI, 576, .inl (v_rch fR k1 h1))), (mw, .inl (cZ, 64, .inl fW)), (mt, .inl (cI, 8, .inl fs)), (ml, .inl (cI, 4, .inl fl)), (mk, .inl (cI, 20, .inl fk)), (mv, .inl (cI, 20, .inl fv))]) hP hD [0, 1, 2, 3, 4, 5, 6, 7, 8] [] rfl rfl (by decide) (by decide) hk1 hFc hP1 hD1
                generalize H1 = H at hP hS ⊢
                have hP : va_P D classes [(mo, .inr (4, [.int kd, .ref mp, .ref mq, .int (nI n), .ref mr, .ref mw, .ref mt, .ref ml, .ref mk, .ref mv, .int em, .int sp, .int rs])), (mp, .inl (cI, 64, .inl fo)), (mq, .inl (cI, 64, .inl fn)), (mr, .inl (cI, 576, .inl (v_rch fR k1 h1))), (mw, .inl (cZ, 64, .inl fW)), (mt, .inl (cI, 8, .inl fs)), (ml, .inl (cI, 4, .inl fl)), (mk, .inl (cI, 20, .inl fk)), (mv, .inl (cI, 20, .inl fv))] H := hP
                have hD : va_D A [(mo, .inr (4, [.int kd, .ref mp, .ref mq, .int (nI n), .ref mr, .ref mw, .ref mt, .ref ml, .ref mk, .ref mv, .int em, .int sp, .int rs])), (mp, .inl (cI, 64, .inl fo)), (mq, .inl (cI, 64, .inl fn)), (mr, .inl (cI, 576, .inl (v_rch fR k1 h1))), (mw, .inl (cZ, 64, .inl fW)), (mt, .inl (cI, 8, .inl fs)), (ml, .inl (cI, 4, .inl fl)), (mk, .inl (cI, 20, .inl fk)), (mv, .inl (cI, 20, .inl fv))] := hD
                refine W.vret hx hb hr (fun t ht hW => ⟨⟨((v_rch fR k1 h1), fW), rfl, ?_, ?_⟩, hS.F ht⟩) hS.2.2 d_Model_goOn_126
                · (exact Or.inr (Or.inr ⟨hc, h1, k1, hh1, eh, (fun _ => ⟨hkk, ek⟩), by simp only [v_opt, hnx, hj0, if_true, if_false, eq_self, not_true_eq_false, not_false_eq_true, ne_eq]⟩))
                · exact ⟨by rw [ht]; exact hP.sub [0, 1, 2, 3, 4, 5, 6, 7, 8] rfl, hD.sub [0, 1, 2, 3, 4, 5, 6, 7, 8] (by decide) rfl⟩
              · -- ¬ (fo a) = 14
                exact absurd (by rw [h2]; first | done | decide) h7
            · -- ¬ 0 = 0
              exact absurd rfl h6
          · -- ¬ 0 = 0
            exact absurd rfl h5
    · -- ¬ (fo a) = 14
      refine lv_iload_n hx hb d_Model_goOn_30 rfl (lv_at hl 1 rfl) ?_
      refine lv_bipush (v := 17) hx hb d_Model_goOn_31 (by decide) ?_
      refine lv_icmp_eq (tgt := 46) hx hb d_Model_goOn_33 (by decide) (fun h8 => ?_) (fun h8 => ?_)
      · -- (fo a) = 17
        refine lv_iconst (v := 0) hx hb d_Model_goOn_46 (by decide) ?_
        have hnx : o_next (fo a) = 0 := by
          first | (simp only [o_next, h2, h8, if_true, if_false, eq_self, not_true_eq_false, not_false_eq_true, ne_eq]; done) | (simp only [o_next, h2, h8, if_true, if_false, eq_self, not_true_eq_false, not_false_eq_true, ne_eq]; decide)
        refine lv_istore hx hb d_Model_goOn_47 hl (by decide) rfl (fun ls hl => ?_)
        have hl : lv_has ls 6 [(5, .int 0), (4, .int ((nI b) + (o_grow (fo a)))), (3, .int (fo a)), (0, .ref mo), (1, .int (nI a)), (2, .int (nI b))] := hl
        refine lv_iload_n hx hb d_Model_goOn_49 rfl (lv_at hl 5 rfl) ?_
        refine lv_aload_n hx hb d_Model_goOn_50 rfl (lv_at hl 3 rfl) ?_
        refine lv_iload_n hx hb d_Model_goOn_51 rfl (lv_at hl 2 rfl) ?_
        refine vp_callSi (va_Run.run (va_runV (As := [.int (fo a)]) (rest := [.int (nI b)]) ⟨hx, hb, hml, hown, hts⟩ (c_Model_needs l D cI cZ mo mp mq mr mw mt ml mk mv kd n fo fn fR fW fs fl fk fv em sp rs (fo a)) (cwV 1 hts (gd4 k_388 k_390 k_14 k_22 k_391) rfl rfl rfl (by decide +kernel) ⟨Nat.le_of_ble_eq_true rfl, Nat.le_of_ble_eq_true rfl⟩) ⟨PY_blind, va_recv (q0 := 0) (ci := 4) hE.1 hP rfl rfl, py_pre hE (hP.sub [0, 1, 2, 3, 4, 5, 6, 7, 8] rfl)⟩ rfl rfl hl.1 rfl (lv_room (Nat.le_of_ble_eq_true rfl)) d_Model_goOn_52 ⟨Nat.zero_le _, Nat.zero_le _⟩)) (fun r hq => ?_)
        subst hq
        refine lv_eqi (y := (o_needs (fo a) kd)) (hne) ?_
        refine lv_icmp_lt (tgt := 80) hx hb d_Model_goOn_55 (by decide) (fun h9 => ?_) (fun h9 => ?_)
        · -- (nI b) < (o_needs (fo a) kd)
          refine lv_aload_n hx hb d_Model_goOn_80 rfl (lv_at hl 3 rfl) ?_
          refine va_get (D := D) (ci := 4) (v := .ref mw) (C := R_Model) (T := F_Model) (N := 13) hx hb hts in_Model hown hE.1 hP 0 rfl rfl 5 (by decide) (hts _ k_321) (fun _ h9 => h9) rfl d_Model_goOn_81 ?_
          refine lv_iload_n hx hb d_Model_goOn_84 rfl (lv_at hl 4 rfl) ?_
          refine lv_iconst (v := 1) hx hb d_Model_goOn_85 (by decide) ?_
          refine va_zast hx hb hE.1 hP hD hS 4 1 rfl rfl (vp_in_nI (by omega) (by decide)) d_Model_goOn_86 (fun H locs hP hD hS => ?_)
          rw [nI_clamp (show a < 2 ^ 31 by omega)] at hP hD
          have hP : va_P D classes [(mo, .inr (4, [.int kd, .ref mp, .ref mq, .int (nI n), .ref mr, .ref mw, .ref mt, .ref ml, .ref mk, .ref mv, .int em, .int sp, .int rs])), (mp, .inl (cI, 64, .inl fo)), (mq, .inl (cI, 64, .inl fn)), (mr, .inl (cI, 576, .inl fR)), (mw, .inl (cZ, 64, .inl (upd fW a 1))), (mt, .inl (cI, 8, .inl fs)), (ml, .inl (cI, 4, .inl fl)), (mk, .inl (cI, 20, .inl fk)), (mv, .inl (cI, 20, .inl fv))] H := hP
          have hD : va_D A [(mo, .inr (4, [.int kd, .ref mp, .ref mq, .int (nI n), .ref mr, .ref mw, .ref mt, .ref ml, .ref mk, .ref mv, .int em, .int sp, .int rs])), (mp, .inl (cI, 64, .inl fo)), (mq, .inl (cI, 64, .inl fn)), (mr, .inl (cI, 576, .inl fR)), (mw, .inl (cZ, 64, .inl (upd fW a 1))), (mt, .inl (cI, 8, .inl fs)), (ml, .inl (cI, 4, .inl fl)), (mk, .inl (cI, 20, .inl fk)), (mv, .inl (cI, 20, .inl fv))] := hD
          refine W.vret hx hb hr (fun t ht hW => ⟨⟨(fR, (upd fW a 1)), rfl, ?_, ?_⟩, hS.F ht⟩) hS.2.2 d_Model_goOn_87
          · exact Or.inr (Or.inl ⟨hwf, fun q => q (cbd0_fit (by omega) (fit0_needs h9)), rfl⟩)
          · exact ⟨by rw [ht]; exact hP.sub [0, 1, 2, 3, 4, 5, 6, 7, 8] rfl, hD.sub [0, 1, 2, 3, 4, 5, 6, 7, 8] (by decide) rfl⟩
        · -- ¬ (nI b) < (o_needs (fo a) kd)
          refine lv_iload hx hb d_Model_goOn_58 (lv_at hl 1 rfl) ?_
          refine lv_bipush (v := 8) hx hb d_Model_goOn_60 (by decide) ?_
          refine lv_icmp_gt (tgt := 80) hx hb d_Model_goOn_62 (by decide) (fun h10 => ?_) (fun h10 => ?_)
          · -- 8 < ((nI b) + (o_grow (fo a)))
            refine lv_aload_n hx hb d_Model_goOn_80 rfl (lv_at hl 3 rfl) ?_
            refine va_get (D := D) (ci := 4) (v := .ref mw) (C := R_Model) (T := F_Model) (N := 13) hx hb hts in_Model hown hE.1 hP 0 rfl rfl 5 (by decide) (hts _ k_321) (fun _ h9 => h9) rfl d_Model_goOn_81 ?_
            refine lv_iload_n hx hb d_Model_goOn_84 rfl (lv_at hl 4 rfl) ?_
            refine lv_iconst (v := 1) hx hb d_Model_goOn_85 (by decide) ?_
            refine va_zast hx hb hE.1 hP hD hS 4 1 rfl rfl (vp_in_nI (by omega) (by decide)) d_Model_goOn_86 (fun H locs hP hD hS => ?_)
            rw [nI_clamp (show a < 2 ^ 31 by omega)] at hP hD
            have hP : va_P D classes [(mo, .inr (4, [.int kd, .ref mp, .ref mq, .int (nI n), .ref mr, .ref mw, .ref mt, .ref ml, .ref mk, .ref mv, .int em, .int sp, .int rs])), (mp, .inl (cI, 64, .inl fo)), (mq, .inl (cI, 64, .inl fn)), (mr, .inl (cI, 576, .inl fR)), (mw, .inl (cZ, 64, .inl (upd fW a 1))), (mt, .inl (cI, 8, .inl fs)), (ml, .inl (cI, 4, .inl fl)), (mk, .inl (cI, 20, .inl fk)), (mv, .inl (cI, 20, .inl fv))] H := hP
            have hD : va_D A [(mo, .inr (4, [.int kd, .ref mp, .ref mq, .int (nI n), .ref mr, .ref mw, .ref mt, .ref ml, .ref mk, .ref mv, .int em, .int sp, .int rs])), (mp, .inl (cI, 64, .inl fo)), (mq, .inl (cI, 64, .inl fn)), (mr, .inl (cI, 576, .inl fR)), (mw, .inl (cZ, 64, .inl (upd fW a 1))), (mt, .inl (cI, 8, .inl fs)), (ml, .inl (cI, 4, .inl fl)), (mk, .inl (cI, 20, .inl fk)), (mv, .inl (cI, 20, .inl fv))] := hD
            refine W.vret hx hb hr (fun t ht hW => ⟨⟨(fR, (upd fW a 1)), rfl, ?_, ?_⟩, hS.F ht⟩) hS.2.2 d_Model_goOn_87
            · exact Or.inr (Or.inl ⟨hwf, fun q => q (cbd0_fit (by omega) (fit0_grow h10)), rfl⟩)
            · exact ⟨by rw [ht]; exact hP.sub [0, 1, 2, 3, 4, 5, 6, 7, 8] rfl, hD.sub [0, 1, 2, 3, 4, 5, 6, 7, 8] (by decide) rfl⟩
          · -- ¬ 8 < ((nI b) + (o_grow (fo a)))
            refine lv_iload hx hb d_Model_goOn_65 (lv_at hl 0 rfl) ?_
            refine lv_if_eq (tgt := 88) hx hb d_Model_goOn_67 (by decide) (fun h11 => ?_) (fun h11 => ?_)
            · -- 0 = 0
              have hc : cb kd (acOf kd) n fo fn a b := cbd1 hn ha hwf h9 h10 (Or.inl hnx)
              obtain ⟨-, ⟨h1, hh1, eh⟩, hxn, hjm⟩ := cb_facts hn ha hb9 hc
              rw [eh] at hl
              refine lv_iload hx hb d_Model_goOn_88 (lv_at hl 0 rfl) ?_
              refine lv_if_eq (tgt := 102) hx hb d_Model_goOn_90 (by decide) (fun h12 => ?_) (fun h12 => ?_)
              · -- 0 = 0
                refine lv_iload_n hx hb d_Model_goOn_102 rfl (lv_at hl 2 rfl) ?_
                refine lv_bipush (v := 14) hx hb d_Model_goOn_103 (by decide) ?_
                refine lv_icmp_eq (tgt := 114) hx hb d_Model_goOn_105 (by decide) (fun h13 => ?_) (fun h13 => ?_)
                · -- (fo a) = 14
                  exact absurd (by rw [h13]; first | done | decide) h2
                · -- ¬ (fo a) = 14
                  refine lv_iload_n hx hb d_Model_goOn_108 rfl (lv_at hl 2 rfl) ?_
                  refine lv_bipush (v := 15) hx hb d_Model_goOn_109 (by decide) ?_
                  refine lv_icmp_ne (tgt := 126) hx hb d_Model_goOn_111 (by decide) (fun h14 => ?_) (fun h14 => ?_)
                  · -- ¬ (fo a) = 15
                    refine W.vret hx hb hr (fun t ht hW => ⟨⟨(fR, fW), rfl, ?_, ?_⟩, hS.F ht⟩) hS.2.2 d_Model_goOn_126
                    · (have hj1 : o_jump (fo a) = 0 := (by simp only [o_jump, h13, h14, if_true, if_false, eq_self, not_true_eq_false, not_false_eq_true, ne_eq]); exact Or.inr (Or.inr ⟨hc, h1, 0, hh1, eh, (fun q => absurd hj1 q), by simp only [v_opt, hnx, hj1, if_true, if_false, eq_self, not_true_eq_false, not_false_eq_true, ne_eq]⟩))
                    · exact ⟨by rw [ht]; exact hP.sub [0, 1, 2, 3, 4, 5, 6, 7, 8] rfl, hD.sub [0, 1, 2, 3, 4, 5, 6, 7, 8] (by decide) rfl⟩
                  · -- (fo a) = 15
                    exact absurd h14 (by rw [h8]; first | done | decide)
              · -- ¬ 0 = 0
                exact absurd rfl h12
            · -- ¬ 0 = 0
              exact absurd rfl h11
      · -- ¬ (fo a) = 17
        refine lv_iload_n hx hb d_Model_goOn_36 rfl (lv_at hl 1 rfl) ?_
        refine lv_bipush (v := 18) hx hb d_Model_goOn_37 (by decide) ?_
        refine lv_icmp_eq (tgt := 46) hx hb d_Model_goOn_39 (by decide) (fun h15 => ?_) (fun h15 => ?_)
        · -- (fo a) = 18
          refine lv_iconst (v := 0) hx hb d_Model_goOn_46 (by decide) ?_
          have hnx : o_next (fo a) = 0 := by
            first | (simp only [o_next, h2, h8, h15, if_true, if_false, eq_self, not_true_eq_false, not_false_eq_true, ne_eq]; done) | (simp only [o_next, h2, h8, h15, if_true, if_false, eq_self, not_true_eq_false, not_false_eq_true, ne_eq]; decide)
          refine lv_istore hx hb d_Model_goOn_47 hl (by decide) rfl (fun ls hl => ?_)
          have hl : lv_has ls 6 [(5, .int 0), (4, .int ((nI b) + (o_grow (fo a)))), (3, .int (fo a)), (0, .ref mo), (1, .int (nI a)), (2, .int (nI b))] := hl
          refine lv_iload_n hx hb d_Model_goOn_49 rfl (lv_at hl 5 rfl) ?_
          refine lv_aload_n hx hb d_Model_goOn_50 rfl (lv_at hl 3 rfl) ?_
          refine lv_iload_n hx hb d_Model_goOn_51 rfl (lv_at hl 2 rfl) ?_
          refine vp_callSi (va_Run.run (va_runV (As := [.int (fo a)]) (rest := [.int (nI b)]) ⟨hx, hb, hml, hown, hts⟩ (c_Model_needs l D cI cZ mo mp mq mr mw mt ml mk mv kd n fo fn fR fW fs fl fk fv em sp rs (fo a)) (cwV 1 hts (gd4 k_388 k_390 k_14 k_22 k_391) rfl rfl rfl (by decide +kernel) ⟨Nat.le_of_ble_eq_true rfl, Nat.le_of_ble_eq_true rfl⟩) ⟨PY_blind, va_recv (q0 := 0) (ci := 4) hE.1 hP rfl rfl, py_pre hE (hP.sub [0, 1, 2, 3, 4, 5, 6, 7, 8] rfl)⟩ rfl rfl hl.1 rfl (lv_room (Nat.le_of_ble_eq_true rfl)) d_Model_goOn_52 ⟨Nat.zero_le _, Nat.zero_le _⟩)) (fun r hq => ?_)
          subst hq
          refine lv_eqi (y := (o_needs (fo a) kd)) (hne) ?_
          refine lv_icmp_lt (tgt := 80) hx hb d_Model_goOn_55 (by decide) (fun h16 => ?_) (fun h16 => ?_)
          · -- (nI b) < (o_needs (fo a) kd)
            refine lv_aload_n hx hb d_Model_goOn_80 rfl (lv_at hl 3 rfl) ?_
            refine va_get (D := D) (ci := 4) (v := .ref mw) (C := R_Model) (T := F_Model) (N := 13) hx hb hts in_Model hown hE.1 hP 0 rfl rfl 5 (by decide) (hts _ k_321) (fun _ h9 => h9) rfl d_Model_goOn_81 ?_
            refine lv_iload_n hx hb d_Model_goOn_84 rfl (lv_at hl 4 rfl) ?_
            refine lv_iconst (v := 1) hx hb d_Model_goOn_85 (by decide) ?_
            refine va_zast hx hb hE.1 hP hD hS 4 1 rfl rfl (vp_in_nI (by omega) (by decide)) d_Model_goOn_86 (fun H locs hP hD hS => ?_)
            rw [nI_clamp (show a < 2 ^ 31 by omega)] at hP hD
            have hP : va_P D classes [(mo, .inr (4, [.int kd, .ref mp, .ref mq, .int (nI n), .ref mr, .ref mw, .ref mt, .ref ml, .ref mk, .ref mv, .int em, .int sp, .int rs])), (mp, .inl (cI, 64, .inl fo)), (mq, .inl (cI, 64, .inl fn)), (mr, .inl (cI, 576, .inl fR)), (mw, .inl (cZ, 64, .inl (upd fW a 1))), (mt, .inl (cI, 8, .inl fs)), (ml, .inl (cI, 4, .inl fl)), (mk, .inl (cI, 20, .inl fk)), (mv, .inl (cI, 20, .inl fv))] H := hP
            have hD : va_D A [(mo, .inr (4, [.int kd, .ref mp, .ref mq, .int (nI n), .ref mr, .ref mw, .ref mt, .ref ml, .ref mk, .ref mv, .int em, .int sp, .int rs])), (mp, .inl (cI, 64, .inl fo)), (mq, .inl (cI, 64, .inl fn)), (mr, .inl (cI, 576, .inl fR)), (mw, .inl (cZ, 64, .inl (upd fW a 1))), (mt, .inl (cI, 8, .inl fs)), (ml, .inl (cI, 4, .inl fl)), (mk, .inl (cI, 20, .inl fk)), (mv, .inl (cI, 20, .inl fv))] := hD
            refine W.vret hx hb hr (fun t ht hW => ⟨⟨(fR, (upd fW a 1)), rfl, ?_, ?_⟩, hS.F ht⟩) hS.2.2 d_Model_goOn_87
            · exact Or.inr (Or.inl ⟨hwf, fun q => q (cbd0_fit (by omega) (fit0_needs h16)), rfl⟩)
            · exact ⟨by rw [ht]; exact hP.sub [0, 1, 2, 3, 4, 5, 6, 7, 8] rfl, hD.sub [0, 1, 2, 3, 4, 5, 6, 7, 8] (by decide) rfl⟩
          · -- ¬ (nI b) < (o_needs (fo a) kd)
            refine lv_iload hx hb d_Model_goOn_58 (lv_at hl 1 rfl) ?_
            refine lv_bipush (v := 8) hx hb d_Model_goOn_60 (by decide) ?_
            refine lv_icmp_gt (tgt := 80) hx hb d_Model_goOn_62 (by decide) (fun h17 => ?_) (fun h17 => ?_)
            · -- 8 < ((nI b) + (o_grow (fo a)))
              refine lv_aload_n hx hb d_Model_goOn_80 rfl (lv_at hl 3 rfl) ?_
              refine va_get (D := D) (ci := 4) (v := .ref mw) (C := R_Model) (T := F_Model) (N := 13) hx hb hts in_Model hown hE.1 hP 0 rfl rfl 5 (by decide) (hts _ k_321) (fun _ h9 => h9) rfl d_Model_goOn_81 ?_
              refine lv_iload_n hx hb d_Model_goOn_84 rfl (lv_at hl 4 rfl) ?_
              refine lv_iconst (v := 1) hx hb d_Model_goOn_85 (by decide) ?_
              refine va_zast hx hb hE.1 hP hD hS 4 1 rfl rfl (vp_in_nI (by omega) (by decide)) d_Model_goOn_86 (fun H locs hP hD hS => ?_)
              rw [nI_clamp (show a < 2 ^ 31 by omega)] at hP hD
              have hP : va_P D classes [(mo, .inr (4, [.int kd, .ref mp, .ref mq, .int (nI n), .ref mr, .ref mw, .ref mt, .ref ml, .ref mk, .ref mv, .int em, .int sp, .int rs])), (mp, .inl (cI, 64, .inl fo)), (mq, .inl (cI, 64, .inl fn)), (mr, .inl (cI, 576, .inl fR)), (mw, .inl (cZ, 64, .inl (upd fW a 1))), (mt, .inl (cI, 8, .inl fs)), (ml, .inl (cI, 4, .inl fl)), (mk, .inl (cI, 20, .inl fk)), (mv, .inl (cI, 20, .inl fv))] H := hP
              have hD : va_D A [(mo, .inr (4, [.int kd, .ref mp, .ref mq, .int (nI n), .ref mr, .ref mw, .ref mt, .ref ml, .ref mk, .ref mv, .int em, .int sp, .int rs])), (mp, .inl (cI, 64, .inl fo)), (mq, .inl (cI, 64, .inl fn)), (mr, .inl (cI, 576, .inl fR)), (mw, .inl (cZ, 64, .inl (upd fW a 1))), (mt, .inl (cI, 8, .inl fs)), (ml, .inl (cI, 4, .inl fl)), (mk, .inl (cI, 20, .inl fk)), (mv, .inl (cI, 20, .inl fv))] := hD
              refine W.vret hx hb hr (fun t ht hW => ⟨⟨(fR, (upd fW a 1)), rfl, ?_, ?_⟩, hS.F ht⟩) hS.2.2 d_Model_goOn_87
              · exact Or.inr (Or.inl ⟨hwf, fun q => q (cbd0_fit (by omega) (fit0_grow h17)), rfl⟩)
              · exact ⟨by rw [ht]; exact hP.sub [0, 1, 2, 3, 4, 5, 6, 7, 8] rfl, hD.sub [0, 1, 2, 3, 4, 5, 6, 7, 8] (by decide) rfl⟩
            · -- ¬ 8 < ((nI b) + (o_grow (fo a)))
              refine lv_iload hx hb d_Model_goOn_65 (lv_at hl 0 rfl) ?_
              refine lv_if_eq (tgt := 88) hx hb d_Model_goOn_67 (by decide) (fun h18 => ?_) (fun h18 => ?_)
              · -- 0 = 0
                have hc : cb kd (acOf kd) n fo fn a b := cbd1 hn ha hwf h16 h17 (Or.inl hnx)
                obtain ⟨-, ⟨h1, hh1, eh⟩, hxn, hjm⟩ := cb_facts hn ha hb9 hc
                rw [eh] at hl
                refine lv_iload hx hb d_Model_goOn_88 (lv_at hl 0 rfl) ?_
                refine lv_if_eq (tgt := 102) hx hb d_Model_goOn_90 (by decide) (fun h19 => ?_) (fun h19 => ?_)
                · -- 0 = 0
                  refine lv_iload_n hx hb d_Model_goOn_102 rfl (lv_at hl 2 rfl) ?_
                  refine lv_bipush (v := 14) hx hb d_Model_goOn_103 (by decide) ?_
                  refine lv_icmp_eq (tgt := 114) hx hb d_Model_goOn_105 (by decide) (fun h20 => ?_) (fun h20 => ?_)
                  · -- (fo a) = 14
                    exact absurd (by rw [h20]; first | done | decide) h2
                  · -- ¬ (fo a) = 14
                    refine lv_iload_n hx hb d_Model_goOn_108 rfl (lv_at hl 2 rfl) ?_
                    refine lv_bipush (v := 15) hx hb d_Model_goOn_109 (by decide) ?_
                    refine lv_icmp_ne (tgt := 126) hx hb d_Model_goOn_111 (by decide) (fun h21 => ?_) (fun h21 => ?_)
                    · -- ¬ (fo a) = 15
                      refine W.vret hx hb hr (fun t ht hW => ⟨⟨(fR, fW), rfl, ?_, ?_⟩, hS.F ht⟩) hS.2.2 d_Model_goOn_126
                      · (have hj1 : o_jump (fo a) = 0 := (by simp only [o_jump, h20, h21, if_true, if_false, eq_self, not_true_eq_false, not_false_eq_true, ne_eq]); exact Or.inr (Or.inr ⟨hc, h1, 0, hh1, eh, (fun q => absurd hj1 q), by simp only [v_opt, hnx, hj1, if_true, if_false, eq_self, not_true_eq_false, not_false_eq_true, ne_eq]⟩))
                      · exact ⟨by rw [ht]; exact hP.sub [0, 1, 2, 3, 4, 5, 6, 7, 8] rfl, hD.sub [0, 1, 2, 3, 4, 5, 6, 7, 8] (by decide) rfl⟩
                    · -- (fo a) = 15
                      exact absurd h21 (by rw [h15]; first | done | decide)
                · -- ¬ 0 = 0
                  exact absurd rfl h19
              · -- ¬ 0 = 0
                exact absurd rfl h18
        · -- ¬ (fo a) = 18
          refine lv_iconst (v := 1) hx hb d_Model_goOn_42 (by decide) ?_
          refine lv_goto (tgt := 47) hx hb d_Model_goOn_43 (by decide) ?_
          have hnx : ¬ o_next (fo a) = 0 := by
            first | (simp only [o_next, h2, h8, h15, if_true, if_false, eq_self, not_true_eq_false, not_false_eq_true, ne_eq]; done) | (simp only [o_next, h2, h8, h15, if_true, if_false, eq_self, not_true_eq_false, not_false_eq_true, ne_eq]; decide)
          refine lv_istore hx hb d_Model_goOn_47 hl (by decide) rfl (fun ls hl => ?_)
          have hl : lv_has ls 6 [(5, .int 1), (4, .int ((nI b) + (o_grow (fo a)))), (3, .int (fo a)), (0, .ref mo), (1, .int (nI a)), (2, .int (nI b))] := hl
          refine lv_iload_n hx hb d_Model_goOn_49 rfl (lv_at hl 5 rfl) ?_
          refine lv_aload_n hx hb d_Model_goOn_50 rfl (lv_at hl 3 rfl) ?_
          refine lv_iload_n hx hb d_Model_goOn_51 rfl (lv_at hl 2 rfl) ?_
          refine vp_callSi (va_Run.run (va_runV (As := [.int (fo a)]) (rest := [.int (nI b)]) ⟨hx, hb, hml, hown, hts⟩ (c_Model_needs l D cI cZ mo mp mq mr mw mt ml mk mv kd n fo fn fR fW fs fl fk fv em sp rs (fo a)) (cwV 1 hts (gd4 k_388 k_390 k_14 k_22 k_391) rfl rfl rfl (by decide +kernel) ⟨Nat.le_of_ble_eq_true rfl, Nat.le_of_ble_eq_true rfl⟩) ⟨PY_blind, va_recv (q0 := 0) (ci := 4) hE.1 hP rfl rfl, py_pre hE (hP.sub [0, 1, 2, 3, 4, 5, 6, 7, 8] rfl)⟩ rfl rfl hl.1 rfl (lv_room (Nat.le_of_ble_eq_true rfl)) d_Model_goOn_52 ⟨Nat.zero_le _, Nat.zero_le _⟩)) (fun r hq => ?_)
          subst hq
          refine lv_eqi (y := (o_needs (fo a) kd)) (hne) ?_
          refine lv_icmp_lt (tgt := 80) hx hb d_Model_goOn_55 (by decide) (fun h22 => ?_) (fun h22 => ?_)
          · -- (nI b) < (o_needs (fo a) kd)
            refine lv_aload_n hx hb d_Model_goOn_80 rfl (lv_at hl 3 rfl) ?_
            refine va_get (D := D) (ci := 4) (v := .ref mw) (C := R_Model) (T := F_Model) (N := 13) hx hb hts in_Model hown hE.1 hP 0 rfl rfl 5 (by decide) (hts _ k_321) (fun _ h9 => h9) rfl d_Model_goOn_81 ?_
            refine lv_iload_n hx hb d_Model_goOn_84 rfl (lv_at hl 4 rfl) ?_
            refine lv_iconst (v := 1) hx hb d_Model_goOn_85 (by decide) ?_
            refine va_zast hx hb hE.1 hP hD hS 4 1 rfl rfl (vp_in_nI (by omega) (by decide)) d_Model_goOn_86 (fun H locs hP hD hS => ?_)
            rw [nI_clamp (show a < 2 ^ 31 by omega)] at hP hD
            have hP : va_P D classes [(mo, .inr (4, [.int kd, .ref mp, .ref mq, .int (nI n), .ref mr, .ref mw, .ref mt, .ref ml, .ref mk, .ref mv, .int em, .int sp, .int rs])), (mp, .inl (cI, 64, .inl fo)), (mq, .inl (cI, 64, .inl fn)), (mr, .inl (cI, 576, .inl fR)), (mw, .inl (cZ, 64, .inl (upd fW a 1))), (mt, .inl (cI, 8, .inl fs)), (ml, .inl (cI, 4, .inl fl)), (mk, .inl (cI, 20, .inl fk)), (mv, .inl (cI, 20, .inl fv))] H := hP
            have hD : va_D A [(mo, .inr (4, [.int kd, .ref mp, .ref mq, .int (nI n), .ref mr, .ref mw, .ref mt, .ref ml, .ref mk, .ref mv, .int em, .int sp, .int rs])), (mp, .inl (cI, 64, .inl fo)), (mq, .inl (cI, 64, .inl fn)), (mr, .inl (cI, 576, .inl fR)), (mw, .inl (cZ, 64, .inl (upd fW a 1))), (mt, .inl (cI, 8, .inl fs)), (ml, .inl (cI, 4, .inl fl)), (mk, .inl (cI, 20, .inl fk)), (mv, .inl (cI, 20, .inl fv))] := hD
            refine W.vret hx hb hr (fun t ht hW => ⟨⟨(fR, (upd fW a 1)), rfl, ?_, ?_⟩, hS.F ht⟩) hS.2.2 d_Model_goOn_87
            · exact Or.inr (Or.inl ⟨hwf, fun q => q (cbd0_fit (by omega) (fit0_needs h22)), rfl⟩)
            · exact ⟨by rw [ht]; exact hP.sub [0, 1, 2, 3, 4, 5, 6, 7, 8] rfl, hD.sub [0, 1, 2, 3, 4, 5, 6, 7, 8] (by decide) rfl⟩
          · -- ¬ (nI b) < (o_needs (fo a) kd)
            refine lv_iload hx hb d_Model_goOn_58 (lv_at hl 1 rfl) ?_
            refine lv_bipush (v := 8) hx hb d_Model_goOn_60 (by decide) ?_
            refine lv_icmp_gt (tgt := 80) hx hb d_Model_goOn_62 (by decide) (fun h23 => ?_) (fun h23 => ?_)
            · -- 8 < ((nI b) + (o_grow (fo a)))
              refine lv_aload_n hx hb d_Model_goOn_80 rfl (lv_at hl 3 rfl) ?_
              refine va_get (D := D) (ci := 4) (v := .ref mw) (C := R_Model) (T := F_Model) (N := 13) hx hb hts in_Model hown hE.1 hP 0 rfl rfl 5 (by decide) (hts _ k_321) (fun _ h9 => h9) rfl d_Model_goOn_81 ?_
              refine lv_iload_n hx hb d_Model_goOn_84 rfl (lv_at hl 4 rfl) ?_
              refine lv_iconst (v := 1) hx hb d_Model_goOn_85 (by decide) ?_
              refine va_zast hx hb hE.1 hP hD hS 4 1 rfl rfl (vp_in_nI (by omega) (by decide)) d_Model_goOn_86 (fun H locs hP hD hS => ?_)
              rw [nI_clamp (show a < 2 ^ 31 by omega)] at hP hD
              have hP : va_P D classes [(mo, .inr (4, [.int kd, .ref mp, .ref mq, .int (nI n), .ref mr, .ref mw, .ref mt, .ref ml, .ref mk, .ref mv, .int em, .int sp, .int rs])), (mp, .inl (cI, 64, .inl fo)), (mq, .inl (cI, 64, .inl fn)), (mr, .inl (cI, 576, .inl fR)), (mw, .inl (cZ, 64, .inl (upd fW a 1))), (mt, .inl (cI, 8, .inl fs)), (ml, .inl (cI, 4, .inl fl)), (mk, .inl (cI, 20, .inl fk)), (mv, .inl (cI, 20, .inl fv))] H := hP
              have hD : va_D A [(mo, .inr (4, [.int kd, .ref mp, .ref mq, .int (nI n), .ref mr, .ref mw, .ref mt, .ref ml, .ref mk, .ref mv, .int em, .int sp, .int rs])), (mp, .inl (cI, 64, .inl fo)), (mq, .inl (cI, 64, .inl fn)), (mr, .inl (cI, 576, .inl fR)), (mw, .inl (cZ, 64, .inl (upd fW a 1))), (mt, .inl (cI, 8, .inl fs)), (ml, .inl (cI, 4, .inl fl)), (mk, .inl (cI, 20, .inl fk)), (mv, .inl (cI, 20, .inl fv))] := hD
              refine W.vret hx hb hr (fun t ht hW => ⟨⟨(fR, (upd fW a 1)), rfl, ?_, ?_⟩, hS.F ht⟩) hS.2.2 d_Model_goOn_87
              · exact Or.inr (Or.inl ⟨hwf, fun q => q (cbd0_fit (by omega) (fit0_grow h23)), rfl⟩)
              · exact ⟨by rw [ht]; exact hP.sub [0, 1, 2, 3, 4, 5, 6, 7, 8] rfl, hD.sub [0, 1, 2, 3, 4, 5, 6, 7, 8] (by decide) rfl⟩
            · -- ¬ 8 < ((nI b) + (o_grow (fo a)))
              refine lv_iload hx hb d_Model_goOn_65 (lv_at hl 0 rfl) ?_
              refine lv_if_eq (tgt := 88) hx hb d_Model_goOn_67 (by decide) (fun h24 => ?_) (fun h24 => ?_)
              · -- 1 = 0
                exact absurd h24 (by decide)
              · -- ¬ 1 = 0
                refine lv_iload_n hx hb d_Model_goOn_70 rfl (lv_at hl 4 rfl) ?_
                refine lv_iconst (v := 1) hx hb d_Model_goOn_71 (by decide) ?_
                refine lv_iadd hx hb d_Model_goOn_72 ?_
                refine lv_aload_n hx hb d_Model_goOn_73 rfl (lv_at hl 3 rfl) ?_
                refine va_get (D := D) (ci := 4) (v := .int (nI n)) (C := R_Model) (T := F_Model) (N := 13) hx hb hts in_Model hown hE.1 hP 0 rfl rfl 3 (by decide) (hts _ k_319) (fun _ h9 => h9) rfl d_Model_goOn_74 ?_
                refine lv_icmp_ne (tgt := 88) hx hb d_Model_goOn_77 (by decide) (fun h25 => ?_) (fun h25 => ?_)
                · -- ¬ ((nI a) + 1) = (nI n)
                  have hc : cb kd (acOf kd) n fo fn a b := cbd1 hn ha hwf h22 h23 (Or.inr h25)
                  obtain ⟨-, ⟨h1, hh1, eh⟩, hxn, hjm⟩ := cb_facts hn ha hb9 hc
                  rw [eh] at hl
                  have hx1 : a + 1 < n := hxn hnx
                  refine lv_iload hx hb d_Model_goOn_88 (lv_at hl 0 rfl) ?_
                  refine lv_if_eq (tgt := 102) hx hb d_Model_goOn_90 (by decide) (fun h26 => ?_) (fun h26 => ?_)
                  · -- 1 = 0
                    exact absurd h26 (by decide)
                  · -- ¬ 1 = 0
                    refine lv_aload_n hx hb d_Model_goOn_93 rfl (lv_at hl 3 rfl) ?_
                    refine lv_iload_n hx hb d_Model_goOn_94 rfl (lv_at hl 4 rfl) ?_
                    refine lv_iconst (v := 1) hx hb d_Model_goOn_95 (by decide) ?_
                    refine lv_iadd hx hb d_Model_goOn_96 ?_
                    refine lv_eqi (y := (nI (a + 1))) (nI_1 a) ?_
                    refine lv_iload hx hb d_Model_goOn_97 (lv_at hl 1 rfl) ?_
                    have hPc := hP.sub (ws' := [(mo, .inr (4, [.int kd, .ref mp, .ref mq, .int (nI n), .ref mr, .ref mw, .ref mt, .ref ml, .ref mk, .ref mv, .int em, .int sp, .int rs])), (mp, .inl (cI, 64, .inl fo)), (mq, .inl (cI, 64, .inl fn)), (mr, .inl (cI, 576, .inl fR)), (mw, .inl (cZ, 64, .inl fW)), (mt, .inl (cI, 8, .inl fs)), (ml, .inl (cI, 4, .inl fl)), (mk, .inl (cI, 20, .inl fk)), (mv, .inl (cI, 20, .inl fv))]) [0, 1, 2, 3, 4, 5, 6, 7, 8] rfl
                    have hDc := hD.sub (ws' := [(mo, .inr (4, [.int kd, .ref mp, .ref mq, .int (nI n), .ref mr, .ref mw, .ref mt, .ref ml, .ref mk, .ref mv, .int em, .int sp, .int rs])), (mp, .inl (cI, 64, .inl fo)), (mq, .inl (cI, 64, .inl fn)), (mr, .inl (cI, 576, .inl fR)), (mw, .inl (cZ, 64, .inl fW)), (mt, .inl (cI, 8, .inl fs)), (ml, .inl (cI, 4, .inl fl)), (mk, .inl (cI, 20, .inl fk)), (mv, .inl (cI, 20, .inl fv))]) [0, 1, 2, 3, 4, 5, 6, 7, 8] (by decide) rfl
                    have hFc := va_free (wc := [(mo, .inr (4, [.int kd, .ref mp, .ref mq, .int (nI n), .ref mr, .ref mw, .ref mt, .ref ml, .ref mk, .ref mv, .int em, .int sp, .int rs])), (mp, .inl (cI, 64, .inl fo)), (mq, .inl (cI, 64, .inl fn)), (mr, .inl (cI, 576, .inl fR)), (mw, .inl (cZ, 64, .inl fW)), (mt, .inl (cI, 8, .inl fs)), (ml, .inl (cI, 4, .inl fl)), (mk, .inl (cI, 20, .inl fk)), (mv, .inl (cI, 20, .inl fv))]) hD hS hA [0, 1, 2, 3, 4, 5, 6, 7, 8] rfl
                    refine va_callv (va_runV (As := [.int (nI (a + 1)), .int (nI h1)]) (rest := []) ⟨hx, hb, hml, hown, hts⟩ (c_Model_reach l D cI cZ s.heap.size mo mp mq mr mw mt ml mk mv kd n fo fn fR fW fs fl fk fv em sp rs (a + 1) h1 (by omega) (by omega)) (cwV 2 hts (gd4 k_392 k_394 k_15 k_22 k_395) rfl rfl rfl (by decide +kernel) ⟨Nat.le_of_ble_eq_true rfl, Nat.le_of_ble_eq_true rfl⟩) ⟨MY_blind, va_recv (q0 := 0) (ci := 4) hE.1 hP rfl rfl, my_pre hE hPc hDc⟩ rfl rfl hl.1 rfl (lv_room (Nat.le_of_ble_eq_true rfl)) d_Model_goOn_99 ⟨Nat.zero_le _, Nat.zero_le _⟩) hS (fun q _ h => hFc q h) hFc (fun u t H1 locs ht hvm hw hB hz1 hk1 hS => ?_)
                    obtain ⟨hP1, hD1⟩ := hB
                    rw [ht] at hP1
                    subst hw
                    obtain ⟨hP, hD⟩ := va_join (wr := []) (w1 := [(mo, .inr (4, [.int kd, .ref mp, .ref mq, .int (nI n), .ref mr, .ref mw, .ref mt, .ref ml, .ref mk, .ref mv, .int em, .int sp, .int rs])), (mp, .inl (cI, 64, .inl fo)), (mq, .inl (cI, 64, .inl fn)), (mr, .inl (cI, 576, .inl (v_rch fR (a + 1) h1))), (mw, .inl (cZ, 64, .inl fW)), (mt, .inl (cI, 8, .inl fs)), (ml, .inl (cI, 4, .inl fl)), (mk, .inl (cI, 20, .inl fk)), (mv, .inl (cI, 20, .inl fv))]) hP hD [0, 1, 2, 3, 4, 5, 6, 7, 8] [] rfl rfl (by decide) (by decide) hk1 hFc hP1 hD1
                    generalize H1 = H at hP hS ⊢
                    have hP : va_P D classes [(mo, .inr (4, [.int kd, .ref mp, .ref mq, .int (nI n), .ref mr, .ref mw, .ref mt, .ref ml, .ref mk, .ref mv, .int em, .int sp, .int rs])), (mp, .inl (cI, 64, .inl fo)), (mq, .inl (cI, 64, .inl fn)), (mr, .inl (cI, 576, .inl (v_rch fR (a + 1) h1))), (mw, .inl (cZ, 64, .inl fW)), (mt, .inl (cI, 8, .inl fs)), (ml, .inl (cI, 4, .inl fl)), (mk, .inl (cI, 20, .inl fk)), (mv, .inl (cI, 20, .inl fv))] H := hP
                    have hD : va_D A [(mo, .inr (4, [.int kd, .ref mp, .ref mq, .int (nI n), .ref mr, .ref mw, .ref mt, .ref ml, .ref mk, .ref mv, .int em, .int sp, .int rs])), (mp, .inl (cI, 64, .inl fo)), (mq, .inl (cI, 64, .inl fn)), (mr, .inl (cI, 576, .inl (v_rch fR (a + 1) h1))), (mw, .inl (cZ, 64, .inl fW)), (mt, .inl (cI, 8, .inl fs)), (ml, .inl (cI, 4, .inl fl)), (mk, .inl (cI, 20, .inl fk)), (mv, .inl (cI, 20, .inl fv))] := hD
                    refine lv_iload_n hx hb d_Model_goOn_102 rfl (lv_at hl 2 rfl) ?_
                    refine lv_bipush (v := 14) hx hb d_Model_goOn_103 (by decide) ?_
                    refine lv_icmp_eq (tgt := 114) hx hb d_Model_goOn_105 (by decide) (fun h27 => ?_) (fun h27 => ?_)
                    · -- (fo a) = 14
                      exact absurd (by rw [h27]; first | done | decide) h2
                    · -- ¬ (fo a) = 14
                      refine lv_iload_n hx hb d_Model_goOn_108 rfl (lv_at hl 2 rfl) ?_
                      refine lv_bipush (v := 15) hx hb d_Model_goOn_109 (by decide) ?_
                      refine lv_icmp_ne (tgt := 126) hx hb d_Model_goOn_111 (by decide) (fun h28 => ?_) (fun h28 => ?_)
                      · -- ¬ (fo a) = 15
                        refine W.vret hx hb hr (fun t ht hW => ⟨⟨((v_rch fR (a + 1) h1), fW), rfl, ?_, ?_⟩, hS.F ht⟩) hS.2.2 d_Model_goOn_126
                        · (have hj1 : o_jump (fo a) = 0 := (by simp only [o_jump, h27, h28, if_true, if_false, eq_self, not_true_eq_false, not_false_eq_true, ne_eq]); exact Or.inr (Or.inr ⟨hc, h1, 0, hh1, eh, (fun q => absurd hj1 q), by simp only [v_opt, hnx, hj1, if_true, if_false, eq_self, not_true_eq_false, not_false_eq_true, ne_eq]⟩))
                        · exact ⟨by rw [ht]; exact hP.sub [0, 1, 2, 3, 4, 5, 6, 7, 8] rfl, hD.sub [0, 1, 2, 3, 4, 5, 6, 7, 8] (by decide) rfl⟩
                      · -- (fo a) = 15
                        have hj0 : ¬ o_jump (fo a) = 0 := by
                          rw [h28]; decide
                        obtain ⟨k1, hkk, ek⟩ := hjm hj0
                        refine lv_aload_n hx hb d_Model_goOn_114 rfl (lv_at hl 3 rfl) ?_
                        refine lv_aload_n hx hb d_Model_goOn_115 rfl (lv_at hl 3 rfl) ?_
                        refine va_get (D := D) (ci := 4) (v := .ref mq) (C := R_Model) (T := F_Model) (N := 13) hx hb hts in_Model hown hE.1 hP 0 rfl rfl 2 (by decide) (hts _ k_318) (fun _ h9 => h9) rfl d_Model_goOn_116 ?_
                        refine lv_iload_n hx hb d_Model_goOn_119 rfl (lv_at hl 4 rfl) ?_
                        refine va_iald hx hb hE.1 hP 2 0 rfl rfl (vp_in_nI (by omega) (by decide)) d_Model_goOn_120 ?_
                        refine lv_eqi (y := fn a) (congrArg fn (nI_clamp (show a < 2 ^ 31 by omega))) ?_
                        refine lv_eqi (y := (nI k1)) (ek) ?_
                        refine lv_iload hx hb d_Model_goOn_121 (lv_at hl 1 rfl) ?_
                        have hPc := hP.sub (ws' := [(mo, .inr (4, [.int kd, .ref mp, .ref mq, .int (nI n), .ref mr, .ref mw, .ref mt, .ref ml, .ref mk, .ref mv, .int em, .int sp, .int rs])), (mp, .inl (cI, 64, .inl fo)), (mq, .inl (cI, 64, .inl fn)), (mr, .inl (cI, 576, .inl (v_rch fR (a + 1) h1))), (mw, .inl (cZ, 64, .inl fW)), (mt, .inl (cI, 8, .inl fs)), (ml, .inl (cI, 4, .inl fl)), (mk, .inl (cI, 20, .inl fk)), (mv, .inl (cI, 20, .inl fv))]) [0, 1, 2, 3, 4, 5, 6, 7, 8] rfl
                        have hDc := hD.sub (ws' := [(mo, .inr (4, [.int kd, .ref mp, .ref mq, .int (nI n), .ref mr, .ref mw, .ref mt, .ref ml, .ref mk, .ref mv, .int em, .int sp, .int rs])), (mp, .inl (cI, 64, .inl fo)), (mq, .inl (cI, 64, .inl fn)), (mr, .inl (cI, 576, .inl (v_rch fR (a + 1) h1))), (mw, .inl (cZ, 64, .inl fW)), (mt, .inl (cI, 8, .inl fs)), (ml, .inl (cI, 4, .inl fl)), (mk, .inl (cI, 20, .inl fk)), (mv, .inl (cI, 20, .inl fv))]) [0, 1, 2, 3, 4, 5, 6, 7, 8] (by decide) rfl
                        have hFc := va_free (wc := [(mo, .inr (4, [.int kd, .ref mp, .ref mq, .int (nI n), .ref mr, .ref mw, .ref mt, .ref ml, .ref mk, .ref mv, .int em, .int sp, .int rs])), (mp, .inl (cI, 64, .inl fo)), (mq, .inl (cI, 64, .inl fn)), (mr, .inl (cI, 576, .inl (v_rch fR (a + 1) h1))), (mw, .inl (cZ, 64, .inl fW)), (mt, .inl (cI, 8, .inl fs)), (ml, .inl (cI, 4, .inl fl)), (mk, .inl (cI, 20, .inl fk)), (mv, .inl (cI, 20, .inl fv))]) hD hS hA [0, 1, 2, 3, 4, 5, 6, 7, 8] rfl
                        refine va_callv (va_runV (As := [.int (nI k1), .int (nI h1)]) (rest := []) ⟨hx, hb, hml, hown, hts⟩ (c_Model_reach l D cI cZ H.size mo mp mq mr mw mt ml mk mv kd n fo fn (v_rch fR (a + 1) h1) fW fs fl fk fv em sp rs k1 h1 (by omega) (by omega)) (cwV 2 hts (gd4 k_392 k_394 k_15 k_22 k_395) rfl rfl rfl (by decide +kernel) ⟨Nat.le_of_ble_eq_true rfl, Nat.le_of_ble_eq_true rfl⟩) ⟨MY_blind, va_recv (q0 := 0) (ci := 4) hE.1 hP rfl rfl, my_pre hE hPc hDc⟩ rfl rfl hl.1 rfl (lv_room (Nat.le_of_ble_eq_true rfl)) d_Model_goOn_123 ⟨Nat.zero_le _, Nat.zero_le _⟩) hS (fun q _ h => hFc q h) hFc (fun u t H1 locs ht hvm hw hB hz1 hk1 hS => ?_)
                        obtain ⟨hP1, hD1⟩ := hB
                        rw [ht] at hP1
                        subst hw
                        obtain ⟨hP, hD⟩ := va_join (wr := []) (w1 := [(mo, .inr (4, [.int kd, .ref mp, .ref mq, .int (nI n), .ref mr, .ref mw, .ref mt, .ref ml, .ref mk, .ref mv, .int em, .int sp, .int rs])), (mp, .inl (cI, 64, .inl fo)), (mq, .inl (cI, 64, .inl fn)), (mr, .inl (cI, 576, .inl (v_rch (v_rch fR (a + 1) h1) k1 h1))), (mw, .inl (cZ, 64, .inl fW)), (mt, .inl (cI, 8, .inl fs)), (ml, .inl (cI, 4, .inl fl)), (mk, .inl (cI, 20, .inl fk)), (mv, .inl (cI, 20, .inl fv))]) hP hD [0, 1, 2, 3, 4, 5, 6, 7, 8] [] rfl rfl (by decide) (by decide) hk1 hFc hP1 hD1
                        generalize H1 = H at hP hS ⊢
                        have hP : va_P D classes [(mo, .inr (4, [.int kd, .ref mp, .ref mq, .int (nI n), .ref mr, .ref mw, .ref mt, .ref ml, .ref mk, .ref mv, .int em, .int sp, .int rs])), (mp, .inl (cI, 64, .inl fo)), (mq, .inl (cI, 64, .inl fn)), (mr, .inl (cI, 576, .inl (v_rch (v_rch fR (a + 1) h1) k1 h1))), (mw, .inl (cZ, 64, .inl fW)), (mt, .inl (cI, 8, .inl fs)), (ml, .inl (cI, 4, .inl fl)), (mk, .inl (cI, 20, .inl fk)), (mv, .inl (cI, 20, .inl fv))] H := hP
                        have hD : va_D A [(mo, .inr (4, [.int kd, .ref mp, .ref mq, .int (nI n), .ref mr, .ref mw, .ref mt, .ref ml, .ref mk, .ref mv, .int em, .int sp, .int rs])), (mp, .inl (cI, 64, .inl fo)), (mq, .inl (cI, 64, .inl fn)), (mr, .inl (cI, 576, .inl (v_rch (v_rch fR (a + 1) h1) k1 h1))), (mw, .inl (cZ, 64, .inl fW)), (mt, .inl (cI, 8, .inl fs)), (ml, .inl (cI, 4, .inl fl)), (mk, .inl (cI, 20, .inl fk)), (mv, .inl (cI, 20, .inl fv))] := hD
                        refine W.vret hx hb hr (fun t ht hW => ⟨⟨((v_rch (v_rch fR (a + 1) h1) k1 h1), fW), rfl, ?_, ?_⟩, hS.F ht⟩) hS.2.2 d_Model_goOn_126
                        · (exact Or.inr (Or.inr ⟨hc, h1, k1, hh1, eh, (fun _ => ⟨hkk, ek⟩), by simp only [v_opt, hnx, hj0, if_true, if_false, eq_self, not_true_eq_false, not_false_eq_true, ne_eq]⟩))
                        · exact ⟨by rw [ht]; exact hP.sub [0, 1, 2, 3, 4, 5, 6, 7, 8] rfl, hD.sub [0, 1, 2, 3, 4, 5, 6, 7, 8] (by decide) rfl⟩
                · -- ((nI a) + 1) = (nI n)
                  refine lv_aload_n hx hb d_Model_goOn_80 rfl (lv_at hl 3 rfl) ?_
                  refine va_get (D := D) (ci := 4) (v := .ref mw) (C := R_Model) (T := F_Model) (N := 13) hx hb hts in_Model hown hE.1 hP 0 rfl rfl 5 (by decide) (hts _ k_321) (fun _ h9 => h9) rfl d_Model_goOn_81 ?_
                  refine lv_iload_n hx hb d_Model_goOn_84 rfl (lv_at hl 4 rfl) ?_
                  refine lv_iconst (v := 1) hx hb d_Model_goOn_85 (by decide) ?_
                  refine va_zast hx hb hE.1 hP hD hS 4 1 rfl rfl (vp_in_nI (by omega) (by decide)) d_Model_goOn_86 (fun H locs hP hD hS => ?_)
                  rw [nI_clamp (show a < 2 ^ 31 by omega)] at hP hD
                  have hP : va_P D classes [(mo, .inr (4, [.int kd, .ref mp, .ref mq, .int (nI n), .ref mr, .ref mw, .ref mt, .ref ml, .ref mk, .ref mv, .int em, .int sp, .int rs])), (mp, .inl (cI, 64, .inl fo)), (mq, .inl (cI, 64, .inl fn)), (mr, .inl (cI, 576, .inl fR)), (mw, .inl (cZ, 64, .inl (upd fW a 1))), (mt, .inl (cI, 8, .inl fs)), (ml, .inl (cI, 4, .inl fl)), (mk, .inl (cI, 20, .inl fk)), (mv, .inl (cI, 20, .inl fv))] H := hP
                  have hD : va_D A [(mo, .inr (4, [.int kd, .ref mp, .ref mq, .int (nI n), .ref mr, .ref mw, .ref mt, .ref ml, .ref mk, .ref mv, .int em, .int sp, .int rs])), (mp, .inl (cI, 64, .inl fo)), (mq, .inl (cI, 64, .inl fn)), (mr, .inl (cI, 576, .inl fR)), (mw, .inl (cZ, 64, .inl (upd fW a 1))), (mt, .inl (cI, 8, .inl fs)), (ml, .inl (cI, 4, .inl fl)), (mk, .inl (cI, 20, .inl fk)), (mv, .inl (cI, 20, .inl fv))] := hD
                  refine W.vret hx hb hr (fun t ht hW => ⟨⟨(fR, (upd fW a 1)), rfl, ?_, ?_⟩, hS.F ht⟩) hS.2.2 d_Model_goOn_87
                  · exact Or.inr (Or.inl ⟨hwf, fun q => q (cbd0_next hn ha hnx h25), rfl⟩)
                  · exact ⟨by rw [ht]; exact hP.sub [0, 1, 2, 3, 4, 5, 6, 7, 8] rfl, hD.sub [0, 1, 2, 3, 4, 5, 6, 7, 8] (by decide) rfl⟩
  · -- ¬ (v_bad kd (nI n) (fo a) (fn a)) = 0
    refine W.vret hx hb hr (fun t ht hW => ⟨⟨(fR, fW), rfl, ?_, ?_⟩, hS.F ht⟩) hS.2.2 d_Model_goOn_8
    · exact Or.inl ⟨Classical.byContradiction (fun q => h1 ((bad_wf hk (nI_ne_m1 (by omega))).mpr (by rw [← wf_wfb (by omega)]; exact q))), rfl⟩
    · exact ⟨by rw [ht]; exact hP.sub [0, 1, 2, 3, 4, 5, 6, 7, 8] rfl, hD.sub [0, 1, 2, 3, 4, 5, 6, 7, 8] (by decide) rfl⟩
end
section
/-! what the reference's longer methods rest on -/
theorem in_pair {pp : Nat} {k : Int32} (hp : pp ≤ 20) (h1 : ¬ k < 0) (h2 : ¬ nI pp ≤ k) : vp_in k 20 := by
  obtain ⟨j, hj, rfl⟩ := nI_of h1
  rw [nI_leI (by omega) hj] at h2
  exact vp_in_nI (by omega) (by decide)
def v_pair (em : Int32) (fk fv : Nat → Int32) (k what : Int32) : Int64 := if k < 0 then 1099511627776 else if em ≤ k then 1099511627776 else if what < 0 then 1099511627776 else if what ≤ 1 then (if what = 0 then (fk k.toNatClampNeg).toInt64 else (fv k.toNatClampNeg).toInt64) else 1099511627776
theorem pair_eq {pp : Nat} (hp : pp ≤ 20) (fk fv : Nat → Int32) (k what : Int32) : v_pair (nI pp) fk fv k what = j_pair (nI pp) fk fv k what := by
  unfold v_pair j_pair
  by_cases h1 : k < 0
  · rw [if_pos h1, if_pos h1]
  rw [if_neg h1, if_neg h1]
  by_cases h2 : nI pp ≤ k
  · rw [if_pos h2, if_neg (Int32.not_lt.mpr h2)]
  rw [if_neg h2, if_pos (Int32.not_le.mp h2)]
  obtain ⟨j, hj, rfl⟩ := nI_of h1
  rw [nI_leI (by omega) hj] at h2
  rw [rd_in fk (by omega) (by omega), rd_in fv (by omega) (by omega), nI_clamp hj]
  by_cases h3 : what = 0
  · subst h3
    rw [if_neg (show ¬ (0 : Int32) < 0 by decide), if_pos (show (0 : Int32) ≤ 1 by decide), if_pos (rfl : (0 : Int32) = 0), if_pos (rfl : (0 : Int32) = 0)]
  by_cases h4 : what = 1
  · subst h4
    rw [if_neg (show ¬ (1 : Int32) < 0 by decide), if_pos (show (1 : Int32) ≤ 1 by decide), if_neg h3, if_neg h3, if_pos (rfl : (1 : Int32) = 1)]
  rw [if_neg h3, if_neg h4, if_neg h3]
  by_cases h5 : what < 0
  · rw [if_pos h5]
  rw [if_neg h5, if_neg]
  intro h6
  obtain ⟨i, hi, rfl⟩ := nI_of2 (M := 1) (n := 1) (by decide) h5 h6
  rcases (by omega : i = 0 ∨ i = 1) with rfl | rfl
  · exact h3 rfl
  · exact h4 rfl
theorem bits_1 {mb j : Nat} {P : Nat → Prop} (hj : j < 9) (hb : mb < 512 ∧ ∀ h, h < 9 → (mb.testBit h = true ↔ (h < j ∧ P h))) (hP : P j) : mb ||| 2 ^ j < 512 ∧ ∀ h, h < 9 → ((mb ||| 2 ^ j).testBit h = true ↔ (h < j + 1 ∧ P h)) := by
  refine ⟨(bt_set mb hb.1 j hj).2, fun h hh => ?_⟩
  rw [Nat.testBit_or, Nat.testBit_two_pow, Bool.or_eq_true, hb.2 h hh, decide_eq_true_eq]
  constructor
  · rintro (⟨q, r⟩ | rfl)
    · exact ⟨by omega, r⟩
    · exact ⟨by omega, hP⟩
  · rintro ⟨q, r⟩
    by_cases e : j = h
    · exact Or.inr e
    · exact Or.inl ⟨by omega, r⟩
theorem bits_0 {mb j : Nat} {P : Nat → Prop} (hb : mb < 512 ∧ ∀ h, h < 9 → (mb.testBit h = true ↔ (h < j ∧ P h))) (hP : ¬ P j) : mb < 512 ∧ ∀ h, h < 9 → (mb.testBit h = true ↔ (h < j + 1 ∧ P h)) := by
  refine ⟨hb.1, fun h hh => ?_⟩
  rw [hb.2 h hh]
  constructor
  · rintro ⟨q, r⟩; exact ⟨by omega, r⟩
  · rintro ⟨q, r⟩
    by_cases e : h = j
    · subst e; exact absurd r hP
    · exact ⟨by omega, r⟩
def cntR (fR : Nat → Int32) (a j : Nat) : Nat := (List.range j).countP (fun h => decide (¬ fR (9 * a + h) = 0))
theorem cntR_1 {fR : Nat → Int32} {a j : Nat} (h : ¬ fR (9 * a + j) = 0) : nI (cntR fR a j) + 1 = nI (cntR fR a (j + 1)) := by
  rw [nI_1]
  unfold cntR
  rw [List.range_succ, List.countP_append]
  simp [List.countP_cons, h]
theorem cntR_0 {fR : Nat → Int32} {a j : Nat} (h : fR (9 * a + j) = 0) : nI (cntR fR a j) + 0 = nI (cntR fR a (j + 1)) := by
  rw [Int32.add_zero]
  unfold cntR
  rw [List.range_succ, List.countP_append]
  simp [List.countP_cons, h]
theorem cntR_le (fR : Nat → Int32) (a j : Nat) : cntR fR a j ≤ j := by
  have h := List.countP_le_length (p := fun h => decide (¬ fR (9 * a + h) = 0)) (l := List.range j)
  rwa [List.length_range] at h
section
variable {kd ac : Int32} {n : Nat} {fo fn fR fW : Nat → Int32}
theorem bad_wrong (hF : FillR kd ac n fo fn fR fW) {a : Nat} (ha : a < n) (h : ¬ fW a = 0) : Bad kd ac n fo fn a := Or.inl ((hF.2.2 a ha).mp ((hF.2.1 a ha).resolve_left h))
theorem bad_many (hF : FillR kd ac n fo fn fR fW) {a : Nat} (ha : a < n) (h : ¬ nI (cntR fR a 9) ≤ 1) : Bad kd ac n fo fn a := by
  have h9 := cntR_le fR a 9
  have h1 : ¬ cntR fR a 9 ≤ 1 := fun q => h (show nI (cntR fR a 9) ≤ nI 1 from nI_le q (by omega))
  unfold cntR at h1
  rw [two_le] at h1
  refine Classical.byContradiction (fun q => h1 (fun x y hx hy px py => ?_))
  refine Classical.byContradiction (fun ne => q (Or.inr ⟨x, y, hx, hy, ne, (hF.1 a x ha hx).mp (by simpa using px), (hF.1 a y ha hy).mp (by simpa using py)⟩))
theorem not_bad (hF : FillR kd ac n fo fn fR fW) {a : Nat} (ha : a < n) (h0 : fW a = 0) (h : nI (cntR fR a 9) ≤ 1) : ¬ Bad kd ac n fo fn a := by
  rintro (q | ⟨x, y, hx, hy, ne, px, py⟩)
  · have := (hF.2.2 a ha).mpr q
    rw [h0] at this
    exact absurd this (by decide)
  · have h9 := cntR_le fR a 9
    have h1 : cntR fR a 9 ≤ 1 := (nI_leI (by omega) (by omega)).mp (show nI (cntR fR a 9) ≤ nI 1 from h)
    unfold cntR at h1
    rw [two_le] at h1
    exact ne (h1 x y hx hy (by simpa using (hF.1 a x ha hx).mpr px) (by simpa using (hF.1 a y ha hy).mpr py))
/-- every way that comes to an instruction can do it -/
def Good (kd ac : Int32) (n : Nat) (fo fn : Nat → Int32) : Prop := ∀ k h, k < n → h < 9 → Rch kd ac n fo fn k h → cb kd ac n fo fn k h
theorem good_of (h : ∀ k, k < n → ¬ Bad kd ac n fo fn k) : Good kd ac n fo fn := fun k x hk hx hr => Classical.byContradiction (fun q => h k hk (Or.inl (Or.inr ⟨x, hx, hr, q⟩)))
theorem good_chk (h : ChkR kd ac n fo fn (-2)) (hn : n ≤ 64) : Good kd ac n fo fn := by
  rcases h with ⟨-, h⟩ | ⟨k, hk, e, -⟩
  · exact good_of h
  · exact absurd (show nI k < 0 by rw [← e]; decide) (nI_pos (by omega))
theorem cb_fit (hn : n ≤ 64) {a t : Nat} (ha : a < n) (h : cb kd ac n fo fn a t) : ¬ nI t < o_needs (fo a) kd ∧ ¬ 8 < nI t + o_grow (fo a) :=
  ⟨fun q => h (cbd0_fit (by omega) (fit0_needs q)), fun q => h (cbd0_fit (by omega) (fit0_grow q))⟩
theorem wf_num (hn : n ≤ 64) {a : Nat} (ha : a < n) (hw : ¬ p_wf kd (nI n) ac fo fn (nI a) = 0) {L : Nat} (hL : p_lim ac (nI n) (fo a) = nI L) (hL2 : L < 2 ^ 31) : ∃ q, q < L ∧ fn a = nI q := by
  have e1 : rd fo 64 (nI a) = fo a := rd_in fo (by omega) (by omega)
  have e2 : rd fn 64 (nI a) = fn a := rd_in fn (by omega) (by omega)
  have h3 := wf_lim hw (by rw [e1, hL]; exact nI_ne_m1 hL2)
  rw [e1, e2, hL] at h3
  obtain ⟨j, hj2, ej⟩ := nI_of h3.1
  rw [ej, nI_leI hL2 hj2] at h3
  exact ⟨j, by omega, ej⟩
end
theorem acOf_3 (kd : Int32) : ∃ L, L ≤ 3 ∧ acOf kd = nI L := by
  unfold acOf
  by_cases h1 : kd = 1
  · rw [if_pos h1]; exact ⟨3, by omega, rfl⟩
  · rw [if_neg h1]
    by_cases h2 : kd = 2
    · rw [if_pos h2]; exact ⟨3, by omega, rfl⟩
    · rw [if_neg h2]; exact ⟨2, by omega, rfl⟩
theorem m_loop_s {kd : Int32} {fo fn : Nat → Int32} {N : Nat} {o : Int32} {S S' : MS} (h : m_one (rd fo 64 (m_ap S)) (rd fn 64 (m_ap S)) kd (m_tick S) = (o, S')) : m_loop kd fo fn (N + 1) 3 S = m_loop kd fo fn N o S' := by
  show (if (3 : Int32) = 3 then _ else _) = _
  rw [if_pos rfl, h]
theorem m_loop_x {kd : Int32} {fo fn : Nat → Int32} {o : Int32} {S : MS} (h : ¬ o = 3) : ∀ N, m_loop kd fo fn N o S = (o, S)
  | 0 => rfl
  | N + 1 => by show (if o = 3 then _ else _) = _; rw [if_neg h]
theorem nI_m2 (t : Nat) : nI (t + 2) + (-2) = nI t := by
  rw [show (-2 : Int32) = (-1) + (-1) from rfl, ← Int32.add_assoc, pk_m1, pk_m1]
theorem bad_if {kd : Int32} {n : Nat} {fo fn : Nat → Int32} (hk : kd = 0 ∨ kd = 1 ∨ kd = 2 ∨ kd = 3) (hn : n ≤ 64) {i : Nat} (hi : i < 64) : v_bad kd (nI n) (fo i) (fn i) = if p_wf kd (nI n) (acOf kd) fo fn (nI i) = 0 then 1 else 0 := by
  rw [wf_wfb hi]
  by_cases h : wfb kd (nI n) (acOf kd) (fo i) (fn i) = 0
  · rw [if_pos h]
    exact (bad01 kd (nI n) (fo i) (fn i)).resolve_left (fun q => (bad_wf hk (nI_ne_m1 (by omega))).mp q h)
  · rw [if_neg h]
    exact (bad_wf hk (nI_ne_m1 (by omega))).mpr h
end
section
set_option maxHeartbeats 4000000 in
set_option maxRecDepth 100000 in
theorem c_Model_code (l : Launch) (D : va_G) (cI cZ : ClassId) (hz : Nat) (mo mp mq mr mw mt ml mk mv : Nat) (kd : Int32) (n : Nat) (fo fn fR fW fs fl fk fv : Nat → Int32) (em sp rs : Int32) (o nn : Int32) (hn : n ≤ 64) : Met l y_Model_code w_Model_code (rmk 0) (va_Pc [.ref mo, .int o, .int nn] (MY D cI cZ [(mo, .inr (4, [.int kd, .ref mp, .ref mq, .int (nI n), .ref mr, .ref mw, .ref mt, .ref ml, .ref mk, .ref mv, .int em, .int sp, .int rs])), (mp, .inl (cI, 64, .inl fo)), (mq, .inl (cI, 64, .inl fn)), (mr, .inl (cI, 576, .inl fR)), (mw, .inl (cZ, 64, .inl fW)), (mt, .inl (cI, 8, .inl fs)), (ml, .inl (cI, 4, .inl fl)), (mk, .inl (cI, 20, .inl fk)), (mv, .inl (cI, 20, .inl fv))] hz)) (va_Qi (fun (r : Int32) (u : (Nat → Int32) × (Nat → Int32) × Int32) => (n < 64 ∧ r = nI n ∧ u = (upd fo n o, upd fn n nn, nI (n + 1))) ∨ (n = 64 ∧ r = -3 ∧ u = (fo, fn, nI n))) (fun u t => ME D (va_A [(mo, .inr (4, [.int kd, .ref mp, .ref mq, .int (nI n), .ref mr, .ref mw, .ref mt, .ref ml, .ref mk, .ref mv, .int em, .int sp, .int rs])), (mp, .inl (cI, 64, .inl fo)), (mq, .inl (cI, 64, .inl fn)), (mr, .inl (cI, 576, .inl fR)), (mw, .inl (cZ, 64, .inl fW)), (mt, .inl (cI, 8, .inl fs)), (ml, .inl (cI, 4, .inl fl)), (mk, .inl (cI, 20, .inl fk)), (mv, .inl (cI, 20, .inl fv))] hz) [(mo, .inr (4, [.int kd, .ref mp, .ref mq, .int u.2.2, .ref mr, .ref mw, .ref mt, .ref ml, .ref mk, .ref mv, .int em, .int sp, .int rs])), (mp, .inl (cI, 64, .inl u.1)), (mq, .inl (cI, 64, .inl u.2.1)), (mr, .inl (cI, 576, .inl fR)), (mw, .inl (cZ, 64, .inl fW)), (mt, .inl (cI, 8, .inl fs)), (ml, .inl (cI, 4, .inl fl)), (mk, .inl (cI, 20, .inl fk)), (mv, .inl (cI, 20, .inl fv))] t) (va_A [(mo, .inr (4, [.int kd, .ref mp, .ref mq, .int (nI n), .ref mr, .ref mw, .ref mt, .ref ml, .ref mk, .ref mv, .int em, .int sp, .int rs])), (mp, .inl (cI, 64, .inl fo)), (mq, .inl (cI, 64, .inl fn)), (mr, .inl (cI, 576, .inl fR)), (mw, .inl (cZ, 64, .inl fW)), (mt, .inl (cI, 8, .inl fs)), (ml, .inl (cI, 4, .inl fl)), (mk, .inl (cI, 20, .inl fk)), (mv, .inl (cI, 20, .inl fv))] hz)) 0 0 (va_A [(mo, .inr (4, [.int kd, .ref mp, .ref mq, .int (nI n), .ref mr, .ref mw, .ref mt, .ref ml, .ref mk, .ref mv, .int em, .int sp, .int rs])), (mp, .inl (cI, 64, .inl fo)), (mq, .inl (cI, 64, .inl fn)), (mr, .inl (cI, 576, .inl fR)), (mw, .inl (cZ, 64, .inl fW)), (mt, .inl (cI, 8, .inl fs)), (ml, .inl (cI, 4, .inl fl)), (mk, .inl (cI, 20, .inl fk)), (mv, .inl (cI, 20, .inl fv))] hz) := by
  refine Met.ofW (cc := b_Model_code) (maxL := 3) (ret := (some .int)) (by decide) rfl ?_
  intro p e s m args below meth c s₁ B hml hv
  obtain ⟨rfl, hsz, hP, hE, hD0⟩ := hv
  have hx := B.exec
  have hb := B.bytes
  have hr := B.returns
  have hts : ∀ w ∈ gW, w.before _ s = true := fun w h => atoms_spec (ws := w_Model_code) B.pre w (List.mem_cons_of_mem _ h)
  have hown : s.vm.findClass R_Model = some m.cls := findClass_of_methodNamed B.named
  have hlocks := B.notSynchronized
  subst hsz
  have hD := hD0.self (sz := s.heap.size)
  have hA : ∀ q : Nat, s.heap.size ≤ q → va_A [(mo, .inr (4, [.int kd, .ref mp, .ref mq, .int (nI n), .ref mr, .ref mw, .ref mt, .ref ml, .ref mk, .ref mv, .int em, .int sp, .int rs])), (mp, .inl (cI, 64, .inl fo)), (mq, .inl (cI, 64, .inl fn)), (mr, .inl (cI, 576, .inl fR)), (mw, .inl (cZ, 64, .inl fW)), (mt, .inl (cI, 8, .inl fs)), (ml, .inl (cI, 4, .inl fl)), (mk, .inl (cI, 20, .inl fk)), (mv, .inl (cI, 20, .inl fv))] s.heap.size q := fun q h => Or.inr h
  generalize va_A [(mo, .inr (4, [.int kd, .ref mp, .ref mq, .int (nI n), .ref mr, .ref mw, .ref mt, .ref ml, .ref mk, .ref mv, .int em, .int sp, .int rs])), (mp, .inl (cI, 64, .inl fo)), (mq, .inl (cI, 64, .inl fn)), (mr, .inl (cI, 576, .inl fR)), (mw, .inl (cZ, 64, .inl fW)), (mt, .inl (cI, 8, .inl fs)), (ml, .inl (cI, 4, .inl fl)), (mk, .inl (cI, 20, .inl fk)), (mv, .inl (cI, 20, .inl fv))] s.heap.size = A at hD hA ⊢
  have hS : va_S A s.heap s.heap [] := va_S.rf
  have hP : va_P D classes [(mo, .inr (4, [.int kd, .ref mp, .ref mq, .int (nI n), .ref mr, .ref mw, .ref mt, .ref ml, .ref mk, .ref mv, .int em, .int sp, .int rs])), (mp, .inl (cI, 64, .inl fo)), (mq, .inl (cI, 64, .inl fn)), (mr, .inl (cI, 576, .inl fR)), (mw, .inl (cZ, 64, .inl fW)), (mt, .inl (cI, 8, .inl fs)), (ml, .inl (cI, 4, .inl fl)), (mk, .inl (cI, 20, .inl fk)), (mv, .inl (cI, 20, .inl fv))] s.heap := hP
  have hD : va_D A [(mo, .inr (4, [.int kd, .ref mp, .ref mq, .int (nI n), .ref mr, .ref mw, .ref mt, .ref ml, .ref mk, .ref mv, .int em, .int sp, .int rs])), (mp, .inl (cI, 64, .inl fo)), (mq, .inl (cI, 64, .inl fn)), (mr, .inl (cI, 576, .inl fR)), (mw, .inl (cZ, 64, .inl fW)), (mt, .inl (cI, 8, .inl fs)), (ml, .inl (cI, 4, .inl fl)), (mk, .inl (cI, 20, .inl fk)), (mv, .inl (cI, 20, .inl fv))] := hD
  have hl := lv_entry ([.ref mo, .int o, .int nn]) (n := 3) (Nat.le_of_ble_eq_true rfl)
  rw [lg_entry_eq]
  generalize (lg_sl ([.ref mo, .int o, .int nn]) ++ List.replicate (3 - (lg_sl ([.ref mo, .int o, .int nn])).length) Slot.unset).toArray = ls at hl ⊢
  have hl : lv_has ls 3 [(0, .ref mo), (1, .int o), (2, .int nn)] := hl
  refine lv_aload_n hx hb d_Model_code_0 rfl (lv_at hl 0 rfl) ?_
  refine va_get (D := D) (ci := 4) (v := .int (nI n)) (C := R_Model) (T := F_Model) (N := 13) hx hb hts in_Model hown hE.1 hP 0 rfl rfl 3 (by decide) (hts _ k_319) (fun _ h9 => h9) rfl d_Model_code_1 ?_
  refine lv_bipush (v := 64) hx hb d_Model_code_4 (by decide) ?_
  refine lv_icmp_ne (tgt := 12) hx hb d_Model_code_6 (by decide) (fun h1 => ?_) (fun h1 => ?_)
  · -- ¬ (nI n) = 64
    have hlt : n < 64 := Nat.lt_of_le_of_ne hn (fun q => h1 (by rw [q]; rfl))
    refine lv_aload_n hx hb d_Model_code_12 rfl (lv_at hl 0 rfl) ?_
    refine va_get (D := D) (ci := 4) (v := .ref mp) (C := R_Model) (T := F_Model) (N := 13) hx hb hts in_Model hown hE.1 hP 0 rfl rfl 1 (by decide) (hts _ k_317) (fun _ h9 => h9) rfl d_Model_code_13 ?_
    refine lv_aload_n hx hb d_Model_code_16 rfl (lv_at hl 0 rfl) ?_
    refine va_get (D := D) (ci := 4) (v := .int (nI n)) (C := R_Model) (T := F_Model) (N := 13) hx hb hts in_Model hown hE.1 hP 0 rfl rfl 3 (by decide) (hts _ k_319) (fun _ h9 => h9) rfl d_Model_code_17 ?_
    refine lv_iload_n hx hb d_Model_code_20 rfl (lv_at hl 1 rfl) ?_
    refine va_iast hx hb hE.1 hP hD hS 1 0 rfl rfl (vp_in_nI (by omega) (by decide)) d_Model_code_21 (fun H locs hP hD hS => ?_)
    rw [nI_clamp (show n < 2 ^ 31 by omega)] at hP hD
    have hP : va_P D classes [(mo, .inr (4, [.int kd, .ref mp, .ref mq, .int (nI n), .ref mr, .ref mw, .ref mt, .ref ml, .ref mk, .ref mv, .int em, .int sp, .int rs])), (mp, .inl (cI, 64, .inl (upd fo n o))), (mq, .inl (cI, 64, .inl fn)), (mr, .inl (cI, 576, .inl fR)), (mw, .inl (cZ, 64, .inl fW)), (mt, .inl (cI, 8, .inl fs)), (ml, .inl (cI, 4, .inl fl)), (mk, .inl (cI, 20, .inl fk)), (mv, .inl (cI, 20, .inl fv))] H := hP
    have hD : va_D A [(mo, .inr (4, [.int kd, .ref mp, .ref mq, .int (nI n), .ref mr, .ref mw, .ref mt, .ref ml, .ref mk, .ref mv, .int em, .int sp, .int rs])), (mp, .inl (cI, 64, .inl (upd fo n o))), (mq, .inl (cI, 64, .inl fn)), (mr, .inl (cI, 576, .inl fR)), (mw, .inl (cZ, 64, .inl fW)), (mt, .inl (cI, 8, .inl fs)), (ml, .inl (cI, 4, .inl fl)), (mk, .inl (cI, 20, .inl fk)), (mv, .inl (cI, 20, .inl fv))] := hD
    refine lv_aload_n hx hb d_Model_code_22 rfl (lv_at hl 0 rfl) ?_
    refine va_get (D := D) (ci := 4) (v := .ref mq) (C := R_Model) (T := F_Model) (N := 13) hx hb hts in_Model hown hE.1 hP 0 rfl rfl 2 (by decide) (hts _ k_318) (fun _ h9 => h9) rfl d_Model_code_23 ?_
    refine lv_aload_n hx hb d_Model_code_26 rfl (lv_at hl 0 rfl) ?_
    refine va_get (D := D) (ci := 4) (v := .int (nI n)) (C := R_Model) (T := F_Model) (N := 13) hx hb hts in_Model hown hE.1 hP 0 rfl rfl 3 (by decide) (hts _ k_319) (fun _ h9 => h9) rfl d_Model_code_27 ?_
    refine lv_iload_n hx hb d_Model_code_30 rfl (lv_at hl 2 rfl) ?_
    refine va_iast hx hb hE.1 hP hD hS 2 0 rfl rfl (vp_in_nI (by omega) (by decide)) d_Model_code_31 (fun H locs hP hD hS => ?_)
    rw [nI_clamp (show n < 2 ^ 31 by omega)] at hP hD
    have hP : va_P D classes [(mo, .inr (4, [.int kd, .ref mp, .ref mq, .int (nI n), .ref mr, .ref mw, .ref mt, .ref ml, .ref mk, .ref mv, .int em, .int sp, .int rs])), (mp, .inl (cI, 64, .inl (upd fo n o))), (mq, .inl (cI, 64, .inl (upd fn n nn))), (mr, .inl (cI, 576, .inl fR)), (mw, .inl (cZ, 64, .inl fW)), (mt, .inl (cI, 8, .inl fs)), (ml, .inl (cI, 4, .inl fl)), (mk, .inl (cI, 20, .inl fk)), (mv, .inl (cI, 20, .inl fv))] H := hP
    have hD : va_D A [(mo, .inr (4, [.int kd, .ref mp, .ref mq, .int (nI n), .ref mr, .ref mw, .ref mt, .ref ml, .ref mk, .ref mv, .int em, .int sp, .int rs])), (mp, .inl (cI, 64, .inl (upd fo n o))), (mq, .inl (cI, 64, .inl (upd fn n nn))), (mr, .inl (cI, 576, .inl fR)), (mw, .inl (cZ, 64, .inl fW)), (mt, .inl (cI, 8, .inl fs)), (ml, .inl (cI, 4, .inl fl)), (mk, .inl (cI, 20, .inl fk)), (mv, .inl (cI, 20, .inl fv))] := hD
    refine lv_aload_n hx hb d_Model_code_32 rfl (lv_at hl 0 rfl) ?_
    refine lv_dup hx hb d_Model_code_33 rfl ?_
    refine va_get (D := D) (ci := 4) (v := .int (nI n)) (C := R_Model) (T := F_Model) (N := 13) hx hb hts in_Model hown hE.1 hP 0 rfl rfl 3 (by decide) (hts _ k_319) (fun _ h9 => h9) rfl d_Model_code_34 ?_
    refine lv_iconst (v := 1) hx hb d_Model_code_37 (by decide) ?_
    refine lv_iadd hx hb d_Model_code_38 ?_
    refine va_put (D := D) (ci := 4) (v := .int ((nI n) + 1)) (ty := .int) (C := R_Model) (T := F_Model) (N := 13) hx hb hts in_Model t_Model t_Model_ok n_Model hown hE.1 hP hD hS 0 rfl rfl 3 (by decide) (hts _ k_319) (fun _ h9 => h9) rfl (by decide +kernel) rfl rfl (Nat.le_of_ble_eq_true rfl) d_Model_code_39 (fun H locs hP hD hS => ?_)
    have hP : va_P D classes [(mo, .inr (4, [.int kd, .ref mp, .ref mq, .int ((nI n) + 1), .ref mr, .ref mw, .ref mt, .ref ml, .ref mk, .ref mv, .int em, .int sp, .int rs])), (mp, .inl (cI, 64, .inl (upd fo n o))), (mq, .inl (cI, 64, .inl (upd fn n nn))), (mr, .inl (cI, 576, .inl fR)), (mw, .inl (cZ, 64, .inl fW)), (mt, .inl (cI, 8, .inl fs)), (ml, .inl (cI, 4, .inl fl)), (mk, .inl (cI, 20, .inl fk)), (mv, .inl (cI, 20, .inl fv))] H := hP
    have hD : va_D A [(mo, .inr (4, [.int kd, .ref mp, .ref mq, .int ((nI n) + 1), .ref mr, .ref mw, .ref mt, .ref ml, .ref mk, .ref mv, .int em, .int sp, .int rs])), (mp, .inl (cI, 64, .inl (upd fo n o))), (mq, .inl (cI, 64, .inl (upd fn n nn))), (mr, .inl (cI, 576, .inl fR)), (mw, .inl (cZ, 64, .inl fW)), (mt, .inl (cI, 8, .inl fs)), (ml, .inl (cI, 4, .inl fl)), (mk, .inl (cI, 20, .inl fk)), (mv, .inl (cI, 20, .inl fv))] := hD
    refine lv_aload_n hx hb d_Model_code_42 rfl (lv_at hl 0 rfl) ?_
    refine va_get (D := D) (ci := 4) (v := .int ((nI n) + 1)) (C := R_Model) (T := F_Model) (N := 13) hx hb hts in_Model hown hE.1 hP 0 rfl rfl 3 (by decide) (hts _ k_319) (fun _ h9 => h9) rfl d_Model_code_43 ?_
    refine lv_iconst (v := 1) hx hb d_Model_code_46 (by decide) ?_
    refine lv_isub hx hb d_Model_code_47 ?_
    refine W.iret hx hb hr (fun t ht hW => ⟨⟨(((nI n) + 1) - 1), ((upd fo n o), (upd fn n nn), ((nI n) + 1)), rfl, ?_, ?_⟩, hS.F ht⟩) hS.2.2 d_Model_code_48
    · exact Or.inl ⟨hlt, Int32.add_sub_cancel _ _, by rw [nI_1]⟩
    · exact ⟨by rw [ht]; exact hP.sub [0, 1, 2, 3, 4, 5, 6, 7, 8] rfl, hD.sub [0, 1, 2, 3, 4, 5, 6, 7, 8] (by decide) rfl⟩
  · -- (nI n) = 64
    refine lv_bipush (v := (-3)) hx hb d_Model_code_9 (by decide) ?_
    refine W.iret hx hb hr (fun t ht hW => ⟨⟨(-3), (fo, fn, (nI n)), rfl, ?_, ?_⟩, hS.F ht⟩) hS.2.2 d_Model_code_11
    · exact Or.inr ⟨(nI_eq (by omega) (by omega)).mp (show nI n = nI 64 from h1), rfl, rfl⟩
    · exact ⟨by rw [ht]; exact hP.sub [0, 1, 2, 3, 4, 5, 6, 7, 8] rfl, hD.sub [0, 1, 2, 3, 4, 5, 6, 7, 8] (by decide) rfl⟩
set_option maxHeartbeats 4000000 in
set_option maxRecDepth 100000 in
theorem c_Model_clear (l : Launch) (D : va_G) (cI cZ : ClassId) (hz : Nat) (mo mp mq mr mw mt ml mk mv : Nat) (kd : Int32) (n : Nat) (fo fn fR fW fs fl fk fv : Nat → Int32) (em sp rs : Int32) : Met l y_Model_clear w_Model_clear (rmk 0) (va_Pc [.ref mo] (MY D cI cZ [(mo, .inr (4, [.int kd, .ref mp, .ref mq, .int (nI n), .ref mr, .ref mw, .ref mt, .ref ml, .ref mk, .ref mv, .int em, .int sp, .int rs])), (mp, .inl (cI, 64, .inl fo)), (mq, .inl (cI, 64, .inl fn)), (mr, .inl (cI, 576, .inl fR)), (mw, .inl (cZ, 64, .inl fW)), (mt, .inl (cI, 8, .inl fs)), (ml, .inl (cI, 4, .inl fl)), (mk, .inl (cI, 20, .inl fk)), (mv, .inl (cI, 20, .inl fv))] hz)) (va_Qi (fun (r : Int32) (_ : Unit) => r = nI n) (fun u t => ME D (va_A [(mo, .inr (4, [.int kd, .ref mp, .ref mq, .int (nI n), .ref mr, .ref mw, .ref mt, .ref ml, .ref mk, .ref mv, .int em, .int sp, .int rs])), (mp, .inl (cI, 64, .inl fo)), (mq, .inl (cI, 64, .inl fn)), (mr, .inl (cI, 576, .inl fR)), (mw, .inl (cZ, 64, .inl fW)), (mt, .inl (cI, 8, .inl fs)), (ml, .inl (cI, 4, .inl fl)), (mk, .inl (cI, 20, .inl fk)), (mv, .inl (cI, 20, .inl fv))] hz) [(mo, .inr (4, [.int kd, .ref mp, .ref mq, .int 0, .ref mr, .ref mw, .ref mt, .ref ml, .ref mk, .ref mv, .int em, .int sp, .int rs])), (mp, .inl (cI, 64, .inl fo)), (mq, .inl (cI, 64, .inl fn)), (mr, .inl (cI, 576, .inl fR)), (mw, .inl (cZ, 64, .inl fW)), (mt, .inl (cI, 8, .inl fs)), (ml, .inl (cI, 4, .inl fl)), (mk, .inl (cI, 20, .inl fk)), (mv, .inl (cI, 20, .inl fv))] t) (va_A [(mo, .inr (4, [.int kd, .ref mp, .ref mq, .int (nI n), .ref mr, .ref mw, .ref mt, .ref ml, .ref mk, .ref mv, .int em, .int sp, .int rs])), (mp, .inl (cI, 64, .inl fo)), (mq, .inl (cI, 64, .inl fn)), (mr, .inl (cI, 576, .inl fR)), (mw, .inl (cZ, 64, .inl fW)), (mt, .inl (cI, 8, .inl fs)), (ml, .inl (cI, 4, .inl fl)), (mk, .inl (cI, 20, .inl fk)), (mv, .inl (cI, 20, .inl fv))] hz)) 0 0 (va_A [(mo, .inr (4, [.int kd, .ref mp, .ref mq, .int (nI n), .ref mr, .ref mw, .ref mt, .ref ml, .ref mk, .ref mv, .int em, .int sp, .int rs])), (mp, .inl (cI, 64, .inl fo)), (mq, .inl (cI, 64, .inl fn)), (mr, .inl (cI, 576, .inl fR)), (mw, .inl (cZ, 64, .inl fW)), (mt, .inl (cI, 8, .inl fs)), (ml, .inl (cI, 4, .inl fl)), (mk, .inl (cI, 20, .inl fk)), (mv, .inl (cI, 20, .inl fv))] hz) := by
  refine Met.ofW (cc := b_Model_clear) (maxL := 2) (ret := (some .int)) (by decide) rfl ?_
  intro p e s m args below meth c s₁ B hml hv
  obtain ⟨rfl, hsz, hP, hE, hD0⟩ := hv
  have hx := B.exec
  have hb := B.bytes
  have hr := B.returns
  have hts : ∀ w ∈ gW, w.before _ s = true := fun w h => atoms_spec (ws := w_Model_clear) B.pre w (List.mem_cons_of_mem _ h)
  have hown : s.vm.findClass R_Model = some m.cls := findClass_of_methodNamed B.named
  have hlocks := B.notSynchronized
  subst hsz
  have hD := hD0.self (sz := s.heap.size)
  have hA : ∀ q : Nat, s.heap.size ≤ q → va_A [(mo, .inr (4, [.int kd, .ref mp, .ref mq, .int (nI n), .ref mr, .ref mw, .ref mt, .ref ml, .ref mk, .ref mv, .int em, .int sp, .int rs])), (mp, .inl (cI, 64, .inl fo)), (mq, .inl (cI, 64, .inl fn)), (mr, .inl (cI, 576, .inl fR)), (mw, .inl (cZ, 64, .inl fW)), (mt, .inl (cI, 8, .inl fs)), (ml, .inl (cI, 4, .inl fl)), (mk, .inl (cI, 20, .inl fk)), (mv, .inl (cI, 20, .inl fv))] s.heap.size q := fun q h => Or.inr h
  generalize va_A [(mo, .inr (4, [.int kd, .ref mp, .ref mq, .int (nI n), .ref mr, .ref mw, .ref mt, .ref ml, .ref mk, .ref mv, .int em, .int sp, .int rs])), (mp, .inl (cI, 64, .inl fo)), (mq, .inl (cI, 64, .inl fn)), (mr, .inl (cI, 576, .inl fR)), (mw, .inl (cZ, 64, .inl fW)), (mt, .inl (cI, 8, .inl fs)), (ml, .inl (cI, 4, .inl fl)), (mk, .inl (cI, 20, .inl fk)), (mv, .inl (cI, 20, .inl fv))] s.heap.size = A at hD hA ⊢
  have hS : va_S A s.heap s.heap [] := va_S.rf
  have hP : va_P D classes [(mo, .inr (4, [.int kd, .ref mp, .ref mq, .int (nI n), .ref mr, .ref mw, .ref mt, .ref ml, .ref mk, .ref mv, .int em, .int sp, .int rs])), (mp, .inl (cI, 64, .inl fo)), (mq, .inl (cI, 64, .inl fn)), (mr, .inl (cI, 576, .inl fR)), (mw, .inl (cZ, 64, .inl fW)), (mt, .inl (cI, 8, .inl fs)), (ml, .inl (cI, 4, .inl fl)), (mk, .inl (cI, 20, .inl fk)), (mv, .inl (cI, 20, .inl fv))] s.heap := hP
  have hD : va_D A [(mo, .inr (4, [.int kd, .ref mp, .ref mq, .int (nI n), .ref mr, .ref mw, .ref mt, .ref ml, .ref mk, .ref mv, .int em, .int sp, .int rs])), (mp, .inl (cI, 64, .inl fo)), (mq, .inl (cI, 64, .inl fn)), (mr, .inl (cI, 576, .inl fR)), (mw, .inl (cZ, 64, .inl fW)), (mt, .inl (cI, 8, .inl fs)), (ml, .inl (cI, 4, .inl fl)), (mk, .inl (cI, 20, .inl fk)), (mv, .inl (cI, 20, .inl fv))] := hD
  have hl := lv_entry ([.ref mo]) (n := 2) (Nat.le_of_ble_eq_true rfl)
  rw [lg_entry_eq]
  generalize (lg_sl ([.ref mo]) ++ List.replicate (2 - (lg_sl ([.ref mo])).length) Slot.unset).toArray = ls at hl ⊢
  have hl : lv_has ls 2 [(0, .ref mo)] := hl
  refine lv_aload_n hx hb d_Model_clear_0 rfl (lv_at hl 0 rfl) ?_
  refine va_get (D := D) (ci := 4) (v := .int (nI n)) (C := R_Model) (T := F_Model) (N := 13) hx hb hts in_Model hown hE.1 hP 0 rfl rfl 3 (by decide) (hts _ k_319) (fun _ h9 => h9) rfl d_Model_clear_1 ?_
  refine lv_istore_n hx hb d_Model_clear_4 rfl hl (by decide) rfl (fun ls hl => ?_)
  have hl : lv_has ls 2 [(1, .int (nI n)), (0, .ref mo)] := hl
  refine lv_aload_n hx hb d_Model_clear_5 rfl (lv_at hl 1 rfl) ?_
  refine lv_iconst (v := 0) hx hb d_Model_clear_6 (by decide) ?_
  refine va_put (D := D) (ci := 4) (v := .int 0) (ty := .int) (C := R_Model) (T := F_Model) (N := 13) hx hb hts in_Model t_Model t_Model_ok n_Model hown hE.1 hP hD hS 0 rfl rfl 3 (by decide) (hts _ k_319) (fun _ h9 => h9) rfl (by decide +kernel) rfl rfl (Nat.le_of_ble_eq_true rfl) d_Model_clear_7 (fun H locs hP hD hS => ?_)
  have hP : va_P D classes [(mo, .inr (4, [.int kd, .ref mp, .ref mq, .int 0, .ref mr, .ref mw, .ref mt, .ref ml, .ref mk, .ref mv, .int em, .int sp, .int rs])), (mp, .inl (cI, 64, .inl fo)), (mq, .inl (cI, 64, .inl fn)), (mr, .inl (cI, 576, .inl fR)), (mw, .inl (cZ, 64, .inl fW)), (mt, .inl (cI, 8, .inl fs)), (ml, .inl (cI, 4, .inl fl)), (mk, .inl (cI, 20, .inl fk)), (mv, .inl (cI, 20, .inl fv))] H := hP
  have hD : va_D A [(mo, .inr (4, [.int kd, .ref mp, .ref mq, .int 0, .ref mr, .ref mw, .ref mt, .ref ml, .ref mk, .ref mv, .int em, .int sp, .int rs])), (mp, .inl (cI, 64, .inl fo)), (mq, .inl (cI, 64, .inl fn)), (mr, .inl (cI, 576, .inl fR)), (mw, .inl (cZ, 64, .inl fW)), (mt, .inl (cI, 8, .inl fs)), (ml, .inl (cI, 4, .inl fl)), (mk, .inl (cI, 20, .inl fk)), (mv, .inl (cI, 20, .inl fv))] := hD
  refine lv_iload_n hx hb d_Model_clear_10 rfl (lv_at hl 0 rfl) ?_
  refine W.iret hx hb hr (fun t ht hW => ⟨⟨(nI n), (), rfl, ?_, ?_⟩, hS.F ht⟩) hS.2.2 d_Model_clear_11
  · rfl
  · exact ⟨by rw [ht]; exact hP.sub [0, 1, 2, 3, 4, 5, 6, 7, 8] rfl, hD.sub [0, 1, 2, 3, 4, 5, 6, 7, 8] (by decide) rfl⟩
set_option maxHeartbeats 4000000 in
set_option maxRecDepth 100000 in
theorem c_Model_drop (l : Launch) (D : va_G) (cI cZ : ClassId) (hz : Nat) (mo mp mq mr mw mt ml mk mv : Nat) (kd : Int32) (n : Nat) (fo fn fR fW fs fl fk fv : Nat → Int32) (em sp rs : Int32) : Met l y_Model_drop w_Model_drop (rmk 0) (va_Pc [.ref mo] (MY D cI cZ [(mo, .inr (4, [.int kd, .ref mp, .ref mq, .int (nI n), .ref mr, .ref mw, .ref mt, .ref ml, .ref mk, .ref mv, .int em, .int sp, .int rs])), (mp, .inl (cI, 64, .inl fo)), (mq, .inl (cI, 64, .inl fn)), (mr, .inl (cI, 576, .inl fR)), (mw, .inl (cZ, 64, .inl fW)), (mt, .inl (cI, 8, .inl fs)), (ml, .inl (cI, 4, .inl fl)), (mk, .inl (cI, 20, .inl fk)), (mv, .inl (cI, 20, .inl fv))] hz)) (va_Qi (fun (r : Int32) (u : Int32) => (r, u) = if nI n = 0 then (-2, nI n) else (nI n - 1, nI n - 1)) (fun u t => ME D (va_A [(mo, .inr (4, [.int kd, .ref mp, .ref mq, .int (nI n), .ref mr, .ref mw, .ref mt, .ref ml, .ref mk, .ref mv, .int em, .int sp, .int rs])), (mp, .inl (cI, 64, .inl fo)), (mq, .inl (cI, 64, .inl fn)), (mr, .inl (cI, 576, .inl fR)), (mw, .inl (cZ, 64, .inl fW)), (mt, .inl (cI, 8, .inl fs)), (ml, .inl (cI, 4, .inl fl)), (mk, .inl (cI, 20, .inl fk)), (mv, .inl (cI, 20, .inl fv))] hz) [(mo, .inr (4, [.int kd, .ref mp, .ref mq, .int u, .ref mr, .ref mw, .ref mt, .ref ml, .ref mk, .ref mv, .int em, .int sp, .int rs])), (mp, .inl (cI, 64, .inl fo)), (mq, .inl (cI, 64, .inl fn)), (mr, .inl (cI, 576, .inl fR)), (mw, .inl (cZ, 64, .inl fW)), (mt, .inl (cI, 8, .inl fs)), (ml, .inl (cI, 4, .inl fl)), (mk, .inl (cI, 20, .inl fk)), (mv, .inl (cI, 20, .inl fv))] t) (va_A [(mo, .inr (4, [.int kd, .ref mp, .ref mq, .int (nI n), .ref mr, .ref mw, .ref mt, .ref ml, .ref mk, .ref mv, .int em, .int sp, .int rs])), (mp, .inl (cI, 64, .inl fo)), (mq, .inl (cI, 64, .inl fn)), (mr, .inl (cI, 576, .inl fR)), (mw, .inl (cZ, 64, .inl fW)), (mt, .inl (cI, 8, .inl fs)), (ml, .inl (cI, 4, .inl fl)), (mk, .inl (cI, 20, .inl fk)), (mv, .inl (cI, 20, .inl fv))] hz)) 0 0 (va_A [(mo, .inr (4, [.int kd, .ref mp, .ref mq, .int (nI n), .ref mr, .ref mw, .ref mt, .ref ml, .ref mk, .ref mv, .int em, .int sp, .int rs])), (mp, .inl (cI, 64, .inl fo)), (mq, .inl (cI, 64, .inl fn)), (mr, .inl (cI, 576, .inl fR)), (mw, .inl (cZ, 64, .inl fW)), (mt, .inl (cI, 8, .inl fs)), (ml, .inl (cI, 4, .inl fl)), (mk, .inl (cI, 20, .inl fk)), (mv, .inl (cI, 20, .inl fv))] hz) := by
  refine Met.ofW (cc := b_Model_drop) (maxL := 1) (ret := (some .int)) (by decide) rfl ?_
  intro p e s m args below meth c s₁ B hml hv
  obtain ⟨rfl, hsz, hP, hE, hD0⟩ := hv
  have hx := B.exec
  have hb := B.bytes
  have hr := B.returns
  have hts : ∀ w ∈ gW, w.before _ s = true := fun w h => atoms_spec (ws := w_Model_drop) B.pre w (List.mem_cons_of_mem _ h)
  have hown : s.vm.findClass R_Model = some m.cls := findClass_of_methodNamed B.named
  have hlocks := B.notSynchronized
  subst hsz
  have hD := hD0.self (sz := s.heap.size)
  have hA : ∀ q : Nat, s.heap.size ≤ q → va_A [(mo, .inr (4, [.int kd, .ref mp, .ref mq, .int (nI n), .ref mr, .ref mw, .ref mt, .ref ml, .ref mk, .ref mv, .int em, .int sp, .int rs])), (mp, .inl (cI, 64, .inl fo)), (mq, .inl (cI, 64, .inl fn)), (mr, .inl (cI, 576, .inl fR)), (mw, .inl (cZ, 64, .inl fW)), (mt, .inl (cI, 8, .inl fs)), (ml, .inl (cI, 4, .inl fl)), (mk, .inl (cI, 20, .inl fk)), (mv, .inl (cI, 20, .inl fv))] s.heap.size q := fun q h => Or.inr h
  generalize va_A [(mo, .inr (4, [.int kd, .ref mp, .ref mq, .int (nI n), .ref mr, .ref mw, .ref mt, .ref ml, .ref mk, .ref mv, .int em, .int sp, .int rs])), (mp, .inl (cI, 64, .inl fo)), (mq, .inl (cI, 64, .inl fn)), (mr, .inl (cI, 576, .inl fR)), (mw, .inl (cZ, 64, .inl fW)), (mt, .inl (cI, 8, .inl fs)), (ml, .inl (cI, 4, .inl fl)), (mk, .inl (cI, 20, .inl fk)), (mv, .inl (cI, 20, .inl fv))] s.heap.size = A at hD hA ⊢
  have hS : va_S A s.heap s.heap [] := va_S.rf
  have hP : va_P D classes [(mo, .inr (4, [.int kd, .ref mp, .ref mq, .int (nI n), .ref mr, .ref mw, .ref mt, .ref ml, .ref mk, .ref mv, .int em, .int sp, .int rs])), (mp, .inl (cI, 64, .inl fo)), (mq, .inl (cI, 64, .inl fn)), (mr, .inl (cI, 576, .inl fR)), (mw, .inl (cZ, 64, .inl fW)), (mt, .inl (cI, 8, .inl fs)), (ml, .inl (cI, 4, .inl fl)), (mk, .inl (cI, 20, .inl fk)), (mv, .inl (cI, 20, .inl fv))] s.heap := hP
  have hD : va_D A [(mo, .inr (4, [.int kd, .ref mp, .ref mq, .int (nI n), .ref mr, .ref mw, .ref mt, .ref ml, .ref mk, .ref mv, .int em, .int sp, .int rs])), (mp, .inl (cI, 64, .inl fo)), (mq, .inl (cI, 64, .inl fn)), (mr, .inl (cI, 576, .inl fR)), (mw, .inl (cZ, 64, .inl fW)), (mt, .inl (cI, 8, .inl fs)), (ml, .inl (cI, 4, .inl fl)), (mk, .inl (cI, 20, .inl fk)), (mv, .inl (cI, 20, .inl fv))] := hD
  have hl := lv_entry ([.ref mo]) (n := 1) (Nat.le_of_ble_eq_true rfl)
  rw [lg_entry_eq]
  generalize (lg_sl ([.ref mo]) ++ List.replicate (1 - (lg_sl ([.ref mo])).length) Slot.unset).toArray = ls at hl ⊢
  have hl : lv_has ls 1 [(0, .ref mo)] := hl
  refine lv_aload_n hx hb d_Model_drop_0 rfl (lv_at hl 0 rfl) ?_
  refine va_get (D := D) (ci := 4) (v := .int (nI n)) (C := R_Model) (T := F_Model) (N := 13) hx hb hts in_Model hown hE.1 hP 0 rfl rfl 3 (by decide) (hts _ k_319) (fun _ h9 => h9) rfl d_Model_drop_1 ?_
  refine lv_if_ne (tgt := 10) hx hb d_Model_drop_4 (by decide) (fun h1 => ?_) (fun h1 => ?_)
  · -- ¬ (nI n) = 0
    refine lv_aload_n hx hb d_Model_drop_10 rfl (lv_at hl 0 rfl) ?_
    refine lv_dup hx hb d_Model_drop_11 rfl ?_
    refine va_get (D := D) (ci := 4) (v := .int (nI n)) (C := R_Model) (T := F_Model) (N := 13) hx hb hts in_Model hown hE.1 hP 0 rfl rfl 3 (by decide) (hts _ k_319) (fun _ h9 => h9) rfl d_Model_drop_12 ?_
    refine lv_iconst (v := 1) hx hb d_Model_drop_15 (by decide) ?_
    refine lv_isub hx hb d_Model_drop_16 ?_
    refine va_put (D := D) (ci := 4) (v := .int ((nI n) - 1)) (ty := .int) (C := R_Model) (T := F_Model) (N := 13) hx hb hts in_Model t_Model t_Model_ok n_Model hown hE.1 hP hD hS 0 rfl rfl 3 (by decide) (hts _ k_319) (fun _ h9 => h9) rfl (by decide +kernel) rfl rfl (Nat.le_of_ble_eq_true rfl) d_Model_drop_17 (fun H locs hP hD hS => ?_)
    have hP : va_P D classes [(mo, .inr (4, [.int kd, .ref mp, .ref mq, .int ((nI n) - 1), .ref mr, .ref mw, .ref mt, .ref ml, .ref mk, .ref mv, .int em, .int sp, .int rs])), (mp, .inl (cI, 64, .inl fo)), (mq, .inl (cI, 64, .inl fn)), (mr, .inl (cI, 576, .inl fR)), (mw, .inl (cZ, 64, .inl fW)), (mt, .inl (cI, 8, .inl fs)), (ml, .inl (cI, 4, .inl fl)), (mk, .inl (cI, 20, .inl fk)), (mv, .inl (cI, 20, .inl fv))] H := hP
    have hD : va_D A [(mo, .inr (4, [.int kd, .ref mp, .ref mq, .int ((nI n) - 1), .ref mr, .ref mw, .ref mt, .ref ml, .ref mk, .ref mv, .int em, .int sp, .int rs])), (mp, .inl (cI, 64, .inl fo)), (mq, .inl (cI, 64, .inl fn)), (mr, .inl (cI, 576, .inl fR)), (mw, .inl (cZ, 64, .inl fW)), (mt, .inl (cI, 8, .inl fs)), (ml, .inl (cI, 4, .inl fl)), (mk, .inl (cI, 20, .inl fk)), (mv, .inl (cI, 20, .inl fv))] := hD
    refine lv_aload_n hx hb d_Model_drop_20 rfl (lv_at hl 0 rfl) ?_
    refine va_get (D := D) (ci := 4) (v := .int ((nI n) - 1)) (C := R_Model) (T := F_Model) (N := 13) hx hb hts in_Model hown hE.1 hP 0 rfl rfl 3 (by decide) (hts _ k_319) (fun _ h9 => h9) rfl d_Model_drop_21 ?_
    refine W.iret hx hb hr (fun t ht hW => ⟨⟨((nI n) - 1), ((nI n) - 1), rfl, ?_, ?_⟩, hS.F ht⟩) hS.2.2 d_Model_drop_24
    · first | (simp only [h1, if_true, if_false, eq_self, not_true_eq_false, not_false_eq_true, ne_eq]; done) | (simp only [h1, if_true, if_false, eq_self, not_true_eq_false, not_false_eq_true, ne_eq]; rfl) | (simp [h1]; done)
    · exact ⟨by rw [ht]; exact hP.sub [0, 1, 2, 3, 4, 5, 6, 7, 8] rfl, hD.sub [0, 1, 2, 3, 4, 5, 6, 7, 8] (by decide) rfl⟩
  · -- (nI n) = 0
    refine lv_bipush (v := (-2)) hx hb d_Model_drop_7 (by decide) ?_
    refine W.iret hx hb hr (fun t ht hW => ⟨⟨(-2), (nI n), rfl, ?_, ?_⟩, hS.F ht⟩) hS.2.2 d_Model_drop_9
    · first | (simp only [h1, if_true, if_false, eq_self, not_true_eq_false, not_false_eq_true, ne_eq]; done) | (simp only [h1, if_true, if_false, eq_self, not_true_eq_false, not_false_eq_true, ne_eq]; rfl) | (simp [h1]; done)
    · exact ⟨by rw [ht]; exact hP.sub [0, 1, 2, 3, 4, 5, 6, 7, 8] rfl, hD.sub [0, 1, 2, 3, 4, 5, 6, 7, 8] (by decide) rfl⟩
set_option maxHeartbeats 4000000 in
set_option maxRecDepth 100000 in
theorem c_Model_pair (l : Launch) (D : va_G) (cI cZ : ClassId) (mo mp mq mr mw mt ml mk mv : Nat) (kd : Int32) (n : Nat) (fo fn fR fW fs fl fk fv : Nat → Int32) (pp : Nat) (sp rs : Int32) (k what : Int32) (hp : pp ≤ 20) : Met l y_Model_pair w_Model_pair (rmk 0) (va_Pc [.ref mo, .int k, .int what] (PY D cI cZ [(mo, .inr (4, [.int kd, .ref mp, .ref mq, .int (nI n), .ref mr, .ref mw, .ref mt, .ref ml, .ref mk, .ref mv, .int (nI pp), .int sp, .int rs])), (mp, .inl (cI, 64, .inl fo)), (mq, .inl (cI, 64, .inl fn)), (mr, .inl (cI, 576, .inl fR)), (mw, .inl (cZ, 64, .inl fW)), (mt, .inl (cI, 8, .inl fs)), (ml, .inl (cI, 4, .inl fl)), (mk, .inl (cI, 20, .inl fk)), (mv, .inl (cI, 20, .inl fv))])) (vp_Sl (fun r => r = v_pair (nI pp) fk fv k what)) 0 0 (fun _ => False) := by
  refine Met.ofW (cc := b_Model_pair) (maxL := 3) (ret := (some .long)) (by decide) rfl ?_
  intro p e s m args below meth c s₁ B hml hv
  obtain ⟨rfl, hP, hE⟩ := hv
  have hx := B.exec
  have hb := B.bytes
  have hr := B.returns
  have hts : ∀ w ∈ gW, w.before _ s = true := fun w h => atoms_spec (ws := w_Model_pair) B.pre w (List.mem_cons_of_mem _ h)
  have hown : s.vm.findClass R_Model = some m.cls := findClass_of_methodNamed B.named
  have hlocks := B.notSynchronized
  have hS : va_S (fun _ => False) s.heap s.heap [] := va_S.rf
  have hP : va_P D classes [(mo, .inr (4, [.int kd, .ref mp, .ref mq, .int (nI n), .ref mr, .ref mw, .ref mt, .ref ml, .ref mk, .ref mv, .int (nI pp), .int sp, .int rs])), (mp, .inl (cI, 64, .inl fo)), (mq, .inl (cI, 64, .inl fn)), (mr, .inl (cI, 576, .inl fR)), (mw, .inl (cZ, 64, .inl fW)), (mt, .inl (cI, 8, .inl fs)), (ml, .inl (cI, 4, .inl fl)), (mk, .inl (cI, 20, .inl fk)), (mv, .inl (cI, 20, .inl fv))] s.heap := hP
  have hl := lv_entry ([.ref mo, .int k, .int what]) (n := 3) (Nat.le_of_ble_eq_true rfl)
  rw [lg_entry_eq]
  generalize (lg_sl ([.ref mo, .int k, .int what]) ++ List.replicate (3 - (lg_sl ([.ref mo, .int k, .int what])).length) Slot.unset).toArray = ls at hl ⊢
  have hl : lv_has ls 3 [(0, .ref mo), (1, .int k), (2, .int what)] := hl
  refine lv_iload_n hx hb d_Model_pair_0 rfl (lv_at hl 1 rfl) ?_
  refine lv_if_lt (tgt := 21) hx hb d_Model_pair_1 (by decide) (fun h1 => ?_) (fun h1 => ?_)
  · -- k < 0
    refine lv_ldc2 (v := 1099511627776) hx hb hown (hts _ k_428) d_Model_pair_21 ?_
    refine W.lret hx hb hr (fun t ht hW => ⟨_, rfl, ?_, ht⟩) (fun q h => by cases h) d_Model_pair_24
    show 1099511627776 = v_pair (nI pp) fk fv k what
    first | (simp only [v_pair, h1, if_true, if_false, eq_self, not_true_eq_false, not_false_eq_true, ne_eq]; done) | (simp only [v_pair, h1, if_true, if_false, eq_self, not_true_eq_false, not_false_eq_true, ne_eq]; rfl) | (simp [v_pair, h1]; done)
  · -- ¬ k < 0
    refine lv_iload_n hx hb d_Model_pair_4 rfl (lv_at hl 1 rfl) ?_
    refine lv_aload_n hx hb d_Model_pair_5 rfl (lv_at hl 0 rfl) ?_
    refine va_get (D := D) (ci := 4) (v := .int (nI pp)) (C := R_Model) (T := F_Model) (N := 13) hx hb hts in_Model hown hE.1 hP 0 rfl rfl 10 (by decide) (hts _ k_326) (fun _ h9 => h9) rfl d_Model_pair_6 ?_
    refine lv_icmp_ge (tgt := 21) hx hb d_Model_pair_9 (by decide) (fun h2 => ?_) (fun h2 => ?_)
    · -- (nI pp) ≤ k
      refine lv_ldc2 (v := 1099511627776) hx hb hown (hts _ k_428) d_Model_pair_21 ?_
      refine W.lret hx hb hr (fun t ht hW => ⟨_, rfl, ?_, ht⟩) (fun q h => by cases h) d_Model_pair_24
      show 1099511627776 = v_pair (nI pp) fk fv k what
      first | (simp only [v_pair, h1, h2, if_true, if_false, eq_self, not_true_eq_false, not_false_eq_true, ne_eq]; done) | (simp only [v_pair, h1, h2, if_true, if_false, eq_self, not_true_eq_false, not_false_eq_true, ne_eq]; rfl) | (simp [v_pair, h1, h2]; done)
    · -- ¬ (nI pp) ≤ k
      refine lv_iload_n hx hb d_Model_pair_12 rfl (lv_at hl 2 rfl) ?_
      refine lv_if_lt (tgt := 21) hx hb d_Model_pair_13 (by decide) (fun h3 => ?_) (fun h3 => ?_)
      · -- what < 0
        refine lv_ldc2 (v := 1099511627776) hx hb hown (hts _ k_428) d_Model_pair_21 ?_
        refine W.lret hx hb hr (fun t ht hW => ⟨_, rfl, ?_, ht⟩) (fun q h => by cases h) d_Model_pair_24
        show 1099511627776 = v_pair (nI pp) fk fv k what
        first | (simp only [v_pair, h1, h2, h3, if_true, if_false, eq_self, not_true_eq_false, not_false_eq_true, ne_eq]; done) | (simp only [v_pair, h1, h2, h3, if_true, if_false, eq_self, not_true_eq_false, not_false_eq_true, ne_eq]; rfl) | (simp [v_pair, h1, h2, h3]; done)
      · -- ¬ what < 0
        refine lv_iload_n hx hb d_Model_pair_16 rfl (lv_at hl 2 rfl) ?_
        refine lv_iconst (v := 1) hx hb d_Model_pair_17 (by decide) ?_
        refine lv_icmp_le (tgt := 25) hx hb d_Model_pair_18 (by decide) (fun h4 => ?_) (fun h4 => ?_)
        · -- what ≤ 1
          refine lv_iload_n hx hb d_Model_pair_25 rfl (lv_at hl 2 rfl) ?_
          refine lv_if_ne (tgt := 39) hx hb d_Model_pair_26 (by decide) (fun h5 => ?_) (fun h5 => ?_)
          · -- ¬ what = 0
            refine lv_aload_n hx hb d_Model_pair_39 rfl (lv_at hl 0 rfl) ?_
            refine va_get (D := D) (ci := 4) (v := .ref mv) (C := R_Model) (T := F_Model) (N := 13) hx hb hts in_Model hown hE.1 hP 0 rfl rfl 9 (by decide) (hts _ k_325) (fun _ h9 => h9) rfl d_Model_pair_40 ?_
            refine lv_iload_n hx hb d_Model_pair_43 rfl (lv_at hl 1 rfl) ?_
            refine va_iald hx hb hE.1 hP 8 0 rfl rfl (in_pair hp h1 h2) d_Model_pair_44 ?_
            refine lv_i2l (v := ((fv k.toNatClampNeg)).toInt64) hx hb d_Model_pair_45 rfl ?_
            refine W.lret hx hb hr (fun t ht hW => ⟨_, rfl, ?_, ht⟩) (fun q h => by cases h) d_Model_pair_46
            show (((fv k.toNatClampNeg)).toInt64) = v_pair (nI pp) fk fv k what
            first | (simp only [v_pair, h1, h2, h3, h4, h5, if_true, if_false, eq_self, not_true_eq_false, not_false_eq_true, ne_eq]; done) | (simp only [v_pair, h1, h2, h3, h4, h5, if_true, if_false, eq_self, not_true_eq_false, not_false_eq_true, ne_eq]; rfl) | (simp [v_pair, h1, h2, h3, h4, h5]; done)
          · -- what = 0
            refine lv_aload_n hx hb d_Model_pair_29 rfl (lv_at hl 0 rfl) ?_
            refine va_get (D := D) (ci := 4) (v := .ref mk) (C := R_Model) (T := F_Model) (N := 13) hx hb hts in_Model hown hE.1 hP 0 rfl rfl 8 (by decide) (hts _ k_324) (fun _ h9 => h9) rfl d_Model_pair_30 ?_
            refine lv_iload_n hx hb d_Model_pair_33 rfl (lv_at hl 1 rfl) ?_
            refine va_iald hx hb hE.1 hP 7 0 rfl rfl (in_pair hp h1 h2) d_Model_pair_34 ?_
            refine lv_i2l (v := ((fk k.toNatClampNeg)).toInt64) hx hb d_Model_pair_35 rfl ?_
            refine lv_goto (tgt := 46) hx hb d_Model_pair_36 (by decide) ?_
            refine W.lret hx hb hr (fun t ht hW => ⟨_, rfl, ?_, ht⟩) (fun q h => by cases h) d_Model_pair_46
            show (((fk k.toNatClampNeg)).toInt64) = v_pair (nI pp) fk fv k what
            first | (simp only [v_pair, h1, h2, h3, h4, h5, if_true, if_false, eq_self, not_true_eq_false, not_false_eq_true, ne_eq]; done) | (simp only [v_pair, h1, h2, h3, h4, h5, if_true, if_false, eq_self, not_true_eq_false, not_false_eq_true, ne_eq]; rfl) | (simp [v_pair, h1, h2, h3, h4, h5]; done)
        · -- ¬ what ≤ 1
          refine lv_ldc2 (v := 1099511627776) hx hb hown (hts _ k_428) d_Model_pair_21 ?_
          refine W.lret hx hb hr (fun t ht hW => ⟨_, rfl, ?_, ht⟩) (fun q h => by cases h) d_Model_pair_24
          show 1099511627776 = v_pair (nI pp) fk fv k what
          first | (simp only [v_pair, h1, h2, h3, h4, if_true, if_false, eq_self, not_true_eq_false, not_false_eq_true, ne_eq]; done) | (simp only [v_pair, h1, h2, h3, h4, if_true, if_false, eq_self, not_true_eq_false, not_false_eq_true, ne_eq]; rfl) | (simp [v_pair, h1, h2, h3, h4]; done)
set_option maxHeartbeats 4000000 in
set_option maxRecDepth 100000 in
theorem c_Model_fill (l : Launch) (D : va_G) (cI cZ : ClassId) (hz : Nat) (mo mp mq mr mw mt ml mk mv : Nat) (kd : Int32) (n : Nat) (fo fn fR fW fs fl fk fv : Nat → Int32) (em sp rs : Int32) (hk : kd = 0 ∨ kd = 1 ∨ kd = 2 ∨ kd = 3) (hn : n ≤ 64) (h0n : 0 < n) : Met l y_Model_fill w_Model_fill (rmk 2) (va_Pc [.ref mo] (MY D cI cZ [(mo, .inr (4, [.int kd, .ref mp, .ref mq, .int (nI n), .ref mr, .ref mw, .ref mt, .ref ml, .ref mk, .ref mv, .int em, .int sp, .int rs])), (mp, .inl (cI, 64, .inl fo)), (mq, .inl (cI, 64, .inl fn)), (mr, .inl (cI, 576, .inl fR)), (mw, .inl (cZ, 64, .inl fW)), (mt, .inl (cI, 8, .inl fs)), (ml, .inl (cI, 4, .inl fl)), (mk, .inl (cI, 20, .inl fk)), (mv, .inl (cI, 20, .inl fv))] hz)) (va_Qv (fun u : (Nat → Int32) × (Nat → Int32) => FillR kd (acOf kd) n fo fn u.1 u.2) (fun u t => ME D (va_A [(mo, .inr (4, [.int kd, .ref mp, .ref mq, .int (nI n), .ref mr, .ref mw, .ref mt, .ref ml, .ref mk, .ref mv, .int em, .int sp, .int rs])), (mp, .inl (cI, 64, .inl fo)), (mq, .inl (cI, 64, .inl fn)), (mr, .inl (cI, 576, .inl fR)), (mw, .inl (cZ, 64, .inl fW)), (mt, .inl (cI, 8, .inl fs)), (ml, .inl (cI, 4, .inl fl)), (mk, .inl (cI, 20, .inl fk)), (mv, .inl (cI, 20, .inl fv))] hz) [(mo, .inr (4, [.int kd, .ref mp, .ref mq, .int (nI n), .ref mr, .ref mw, .ref mt, .ref ml, .ref mk, .ref mv, .int em, .int sp, .int rs])), (mp, .inl (cI, 64, .inl fo)), (mq, .inl (cI, 64, .inl fn)), (mr, .inl (cI, 576, .inl u.1)), (mw, .inl (cZ, 64, .inl u.2)), (mt, .inl (cI, 8, .inl fs)), (ml, .inl (cI, 4, .inl fl)), (mk, .inl (cI, 20, .inl fk)), (mv, .inl (cI, 20, .inl fv))] t) (va_A [(mo, .inr (4, [.int kd, .ref mp, .ref mq, .int (nI n), .ref mr, .ref mw, .ref mt, .ref ml, .ref mk, .ref mv, .int em, .int sp, .int rs])), (mp, .inl (cI, 64, .inl fo)), (mq, .inl (cI, 64, .inl fn)), (mr, .inl (cI, 576, .inl fR)), (mw, .inl (cZ, 64, .inl fW)), (mt, .inl (cI, 8, .inl fs)), (ml, .inl (cI, 4, .inl fl)), (mk, .inl (cI, 20, .inl fk)), (mv, .inl (cI, 20, .inl fv))] hz)) 0 0 (va_A [(mo, .inr (4, [.int kd, .ref mp, .ref mq, .int (nI n), .ref mr, .ref mw, .ref mt, .ref ml, .ref mk, .ref mv, .int em, .int sp, .int rs])), (mp, .inl (cI, 64, .inl fo)), (mq, .inl (cI, 64, .inl fn)), (mr, .inl (cI, 576, .inl fR)), (mw, .inl (cZ, 64, .inl fW)), (mt, .inl (cI, 8, .inl fs)), (ml, .inl (cI, 4, .inl fl)), (mk, .inl (cI, 20, .inl fk)), (mv, .inl (cI, 20, .inl fv))] hz) := by
  refine Met.ofW (cc := b_Model_fill) (maxL := 3) (ret := none) (by decide) rfl ?_
  intro p e s m args below meth c s₁ B hml hv
  obtain ⟨rfl, hsz, hP, hE, hD0⟩ := hv
  have hx := B.exec
  have hb := B.bytes
  have hr := B.returns
  have hts : ∀ w ∈ gW, w.before _ s = true := fun w h => atoms_spec (ws := w_Model_fill) B.pre w (List.mem_cons_of_mem _ h)
  have hown : s.vm.findClass R_Model = some m.cls := findClass_of_methodNamed B.named
  have hlocks := B.notSynchronized
  subst hsz
  have hD := hD0.self (sz := s.heap.size)
  have hA : ∀ q : Nat, s.heap.size ≤ q → va_A [(mo, .inr (4, [.int kd, .ref mp, .ref mq, .int (nI n), .ref mr, .ref mw, .ref mt, .ref ml, .ref mk, .ref mv, .int em, .int sp, .int rs])), (mp, .inl (cI, 64, .inl fo)), (mq, .inl (cI, 64, .inl fn)), (mr, .inl (cI, 576, .inl fR)), (mw, .inl (cZ, 64, .inl fW)), (mt, .inl (cI, 8, .inl fs)), (ml, .inl (cI, 4, .inl fl)), (mk, .inl (cI, 20, .inl fk)), (mv, .inl (cI, 20, .inl fv))] s.heap.size q := fun q h => Or.inr h
  generalize va_A [(mo, .inr (4, [.int kd, .ref mp, .ref mq, .int (nI n), .ref mr, .ref mw, .ref mt, .ref ml, .ref mk, .ref mv, .int em, .int sp, .int rs])), (mp, .inl (cI, 64, .inl fo)), (mq, .inl (cI, 64, .inl fn)), (mr, .inl (cI, 576, .inl fR)), (mw, .inl (cZ, 64, .inl fW)), (mt, .inl (cI, 8, .inl fs)), (ml, .inl (cI, 4, .inl fl)), (mk, .inl (cI, 20, .inl fk)), (mv, .inl (cI, 20, .inl fv))] s.heap.size = A at hD hA ⊢
  have hS : va_S A s.heap s.heap [] := va_S.rf
  have hP : va_P D classes [(mo, .inr (4, [.int kd, .ref mp, .ref mq, .int (nI n), .ref mr, .ref mw, .ref mt, .ref ml, .ref mk, .ref mv, .int em, .int sp, .int rs])), (mp, .inl (cI, 64, .inl fo)), (mq, .inl (cI, 64, .inl fn)), (mr, .inl (cI, 576, .inl fR)), (mw, .inl (cZ, 64, .inl fW)), (mt, .inl (cI, 8, .inl fs)), (ml, .inl (cI, 4, .inl fl)), (mk, .inl (cI, 20, .inl fk)), (mv, .inl (cI, 20, .inl fv))] s.heap := hP
  have hD : va_D A [(mo, .inr (4, [.int kd, .ref mp, .ref mq, .int (nI n), .ref mr, .ref mw, .ref mt, .ref ml, .ref mk, .ref mv, .int em, .int sp, .int rs])), (mp, .inl (cI, 64, .inl fo)), (mq, .inl (cI, 64, .inl fn)), (mr, .inl (cI, 576, .inl fR)), (mw, .inl (cZ, 64, .inl fW)), (mt, .inl (cI, 8, .inl fs)), (ml, .inl (cI, 4, .inl fl)), (mk, .inl (cI, 20, .inl fk)), (mv, .inl (cI, 20, .inl fv))] := hD
  have hl := lv_entry ([.ref mo]) (n := 3) (Nat.le_of_ble_eq_true rfl)
  rw [lg_entry_eq]
  generalize (lg_sl ([.ref mo]) ++ List.replicate (3 - (lg_sl ([.ref mo])).length) Slot.unset).toArray = ls at hl ⊢
  have hl : lv_has ls 3 [(0, .ref mo)] := hl
  refine lv_iconst (v := 0) hx hb d_Model_fill_0 (by decide) ?_
  refine lv_istore_n hx hb d_Model_fill_1 rfl hl (by decide) rfl (fun ls hl => ?_)
  have hl : lv_has ls 3 [(1, .int 0), (0, .ref mo)] := hl
  have key : ∀ (N : Nat) (j : Nat) (g : Nat → Int32) (H : Heap) (locs : List Loc) (ls : Array Slot), j + N = 576 → lv_has ls 3 [(1, .int (nI j)), (0, .ref mo)] → va_P D classes [(mo, .inr (4, [.int kd, .ref mp, .ref mq, .int (nI n), .ref mr, .ref mw, .ref mt, .ref ml, .ref mk, .ref mv, .int em, .int sp, .int rs])), (mp, .inl (cI, 64, .inl fo)), (mq, .inl (cI, 64, .inl fn)), (mr, .inl (cI, 576, .inl g)), (mw, .inl (cZ, 64, .inl fW)), (mt, .inl (cI, 8, .inl fs)), (ml, .inl (cI, 4, .inl fl)), (mk, .inl (cI, 20, .inl fk)), (mv, .inl (cI, 20, .inl fv))] H → va_D A [(mo, .inr (4, [.int kd, .ref mp, .ref mq, .int (nI n), .ref mr, .ref mw, .ref mt, .ref ml, .ref mk, .ref mv, .int em, .int sp, .int rs])), (mp, .inl (cI, 64, .inl fo)), (mq, .inl (cI, 64, .inl fn)), (mr, .inl (cI, 576, .inl g)), (mw, .inl (cZ, 64, .inl fW)), (mt, .inl (cI, 8, .inl fs)), (ml, .inl (cI, 4, .inl fl)), (mk, .inl (cI, 20, .inl fk)), (mv, .inl (cI, 20, .inl fv))] → (∀ i, i < j → g i = 0) → va_S A s.heap H locs → W p l e (headSpec w_Model_fill (rmk 2)).room s m ([.ref mo] : List Value).toArray below meth c H locs 0 0 (MQ below (va_Qv (fun u : (Nat → Int32) × (Nat → Int32) => FillR kd (acOf kd) n fo fn u.1 u.2) (fun u t => ME D A [(mo, .inr (4, [.int kd, .ref mp, .ref mq, .int (nI n), .ref mr, .ref mw, .ref mt, .ref ml, .ref mk, .ref mv, .int em, .int sp, .int rs])), (mp, .inl (cI, 64, .inl fo)), (mq, .inl (cI, 64, .inl fn)), (mr, .inl (cI, 576, .inl u.1)), (mw, .inl (cZ, 64, .inl u.2)), (mt, .inl (cI, 8, .inl fs)), (ml, .inl (cI, 4, .inl fl)), (mk, .inl (cI, 20, .inl fk)), (mv, .inl (cI, 20, .inl fv))] t) A) ([.ref mo] : List Value).toArray s 0 0 A) (F0 m 2 ls []) := by
    intro N
    induction N with
    | zero =>
      intro j g H locs ls hjN hl hP hD hg hS
      refine lv_iload_n hx hb d_Model_fill_2 rfl (lv_at hl 0 rfl) ?_
      refine lv_aload_n hx hb d_Model_fill_3 rfl (lv_at hl 1 rfl) ?_
      refine va_get (D := D) (ci := 4) (v := .ref mr) (C := R_Model) (T := F_Model) (N := 13) hx hb hts in_Model hown hE.1 hP 0 rfl rfl 4 (by decide) (hts _ k_320) (fun _ h9 => h9) rfl d_Model_fill_4 ?_
      refine va_alen (v := (nI 576)) hx hb hE.1 hP 3 0 rfl rfl rfl d_Model_fill_7 ?_
      refine lv_icmp_ge (tgt := 24) hx hb d_Model_fill_8 (by decide) (fun h1 => ?_) (fun h1 => ?_)
      · -- (nI 576) ≤ (nI j)
        refine lv_iconst (v := 0) hx hb d_Model_fill_24 (by decide) ?_
        refine lv_istore_n hx hb d_Model_fill_25 rfl hl (by decide) rfl (fun ls hl => ?_)
        have hl : lv_has ls 3 [(1, .int 0), (0, .ref mo)] := hl
        have hg : ∀ i, i < 576 → g i = 0 := fun i hi => hg i (by omega)
        have key2 : ∀ (M : Nat) (q : Nat) (y : Nat → Int32) (H : Heap) (locs : List Loc) (ls : Array Slot), q + M = n → lv_has ls 3 [(1, .int (nI q)), (0, .ref mo)] → va_P D classes [(mo, .inr (4, [.int kd, .ref mp, .ref mq, .int (nI n), .ref mr, .ref mw, .ref mt, .ref ml, .ref mk, .ref mv, .int em, .int sp, .int rs])), (mp, .inl (cI, 64, .inl fo)), (mq, .inl (cI, 64, .inl fn)), (mr, .inl (cI, 576, .inl g)), (mw, .inl (cZ, 64, .inl y)), (mt, .inl (cI, 8, .inl fs)), (ml, .inl (cI, 4, .inl fl)), (mk, .inl (cI, 20, .inl fk)), (mv, .inl (cI, 20, .inl fv))] H → va_D A [(mo, .inr (4, [.int kd, .ref mp, .ref mq, .int (nI n), .ref mr, .ref mw, .ref mt, .ref ml, .ref mk, .ref mv, .int em, .int sp, .int rs])), (mp, .inl (cI, 64, .inl fo)), (mq, .inl (cI, 64, .inl fn)), (mr, .inl (cI, 576, .inl g)), (mw, .inl (cZ, 64, .inl y)), (mt, .inl (cI, 8, .inl fs)), (ml, .inl (cI, 4, .inl fl)), (mk, .inl (cI, 20, .inl fk)), (mv, .inl (cI, 20, .inl fv))] → (∀ i, i < q → y i = if p_wf kd (nI n) (acOf kd) fo fn (nI i) = 0 then 1 else 0) → va_S A s.heap H locs → W p l e (headSpec w_Model_fill (rmk 2)).room s m ([.ref mo] : List Value).toArray below meth c H locs 0 0 (MQ below (va_Qv (fun u : (Nat → Int32) × (Nat → Int32) => FillR kd (acOf kd) n fo fn u.1 u.2) (fun u t => ME D A [(mo, .inr (4, [.int kd, .ref mp, .ref mq, .int (nI n), .ref mr, .ref mw, .ref mt, .ref ml, .ref mk, .ref mv, .int em, .int sp, .int rs])), (mp, .inl (cI, 64, .inl fo)), (mq, .inl (cI, 64, .inl fn)), (mr, .inl (cI, 576, .inl u.1)), (mw, .inl (cZ, 64, .inl u.2)), (mt, .inl (cI, 8, .inl fs)), (ml, .inl (cI, 4, .inl fl)), (mk, .inl (cI, 20, .inl fk)), (mv, .inl (cI, 20, .inl fv))] t) A) ([.ref mo] : List Value).toArray s 0 0 A) (F0 m 26 ls []) := by
          intro M
          induction M with
          | zero =>
            intro q y H locs ls hqN hl hP hD hw hS
            refine lv_iload_n hx hb d_Model_fill_26 rfl (lv_at hl 0 rfl) ?_
            refine lv_aload_n hx hb d_Model_fill_27 rfl (lv_at hl 1 rfl) ?_
            refine va_get (D := D) (ci := 4) (v := .int (nI n)) (C := R_Model) (T := F_Model) (N := 13) hx hb hts in_Model hown hE.1 hP 0 rfl rfl 3 (by decide) (hts _ k_319) (fun _ h9 => h9) rfl d_Model_fill_28 ?_
            refine lv_icmp_ge (tgt := 51) hx hb d_Model_fill_31 (by decide) (fun h2 => ?_) (fun h2 => ?_)
            · -- (nI n) ≤ (nI q)
              refine lv_aload_n hx hb d_Model_fill_51 rfl (lv_at hl 1 rfl) ?_
              refine va_get (D := D) (ci := 4) (v := .int (nI n)) (C := R_Model) (T := F_Model) (N := 13) hx hb hts in_Model hown hE.1 hP 0 rfl rfl 3 (by decide) (hts _ k_319) (fun _ h9 => h9) rfl d_Model_fill_52 ?_
              refine lv_if_le (tgt := 65) hx hb d_Model_fill_55 (by decide) (fun h3 => ?_) (fun h3 => ?_)
              · -- (nI n) ≤ 0
                exact absurd h3 (nI_nle h0n (by omega))
              · -- ¬ (nI n) ≤ 0
                refine lv_aload_n hx hb d_Model_fill_58 rfl (lv_at hl 1 rfl) ?_
                refine va_get (D := D) (ci := 4) (v := .ref mr) (C := R_Model) (T := F_Model) (N := 13) hx hb hts in_Model hown hE.1 hP 0 rfl rfl 4 (by decide) (hts _ k_320) (fun _ h9 => h9) rfl d_Model_fill_59 ?_
                refine lv_iconst (v := 0) hx hb d_Model_fill_62 (by decide) ?_
                refine lv_iconst (v := 1) hx hb d_Model_fill_63 (by decide) ?_
                refine va_iast hx hb hE.1 hP hD hS 3 0 rfl rfl (vp_in_nI (n := 0) (by omega) (by decide)) d_Model_fill_64 (fun H locs hP hD hS => ?_)
                have hP : va_P D classes [(mo, .inr (4, [.int kd, .ref mp, .ref mq, .int (nI n), .ref mr, .ref mw, .ref mt, .ref ml, .ref mk, .ref mv, .int em, .int sp, .int rs])), (mp, .inl (cI, 64, .inl fo)), (mq, .inl (cI, 64, .inl fn)), (mr, .inl (cI, 576, .inl (upd g 0 1))), (mw, .inl (cZ, 64, .inl y)), (mt, .inl (cI, 8, .inl fs)), (ml, .inl (cI, 4, .inl fl)), (mk, .inl (cI, 20, .inl fk)), (mv, .inl (cI, 20, .inl fv))] H := hP
                have hD : va_D A [(mo, .inr (4, [.int kd, .ref mp, .ref mq, .int (nI n), .ref mr, .ref mw, .ref mt, .ref ml, .ref mk, .ref mv, .int em, .int sp, .int rs])), (mp, .inl (cI, 64, .inl fo)), (mq, .inl (cI, 64, .inl fn)), (mr, .inl (cI, 576, .inl (upd g 0 1))), (mw, .inl (cZ, 64, .inl y)), (mt, .inl (cI, 8, .inl fs)), (ml, .inl (cI, 4, .inl fl)), (mk, .inl (cI, 20, .inl fk)), (mv, .inl (cI, 20, .inl fv))] := hD
                refine lv_iconst (v := 1) hx hb d_Model_fill_65 (by decide) ?_
                refine lv_istore_n hx hb d_Model_fill_66 rfl hl (by decide) rfl (fun ls hl => ?_)
                have hl : lv_has ls 3 [(1, .int 1), (0, .ref mo)] := hl
                have hI := init_RI (kd := kd) (ac := acOf kd) (fo := fo) (fn := fn) hn h0n hg (fun i hi => hw i (by omega))
                have key0 : ∀ (K : Nat) (r1 : Nat → Nat) (f1 f2 : Nat → Int32) (mr1 : Int32) (H : Heap) (locs : List Loc) (ls : Array Slot), lv_has ls 3 [(1, .int mr1), (0, .ref mo)] → va_P D classes [(mo, .inr (4, [.int kd, .ref mp, .ref mq, .int (nI n), .ref mr, .ref mw, .ref mt, .ref ml, .ref mk, .ref mv, .int em, .int sp, .int rs])), (mp, .inl (cI, 64, .inl fo)), (mq, .inl (cI, 64, .inl fn)), (mr, .inl (cI, 576, .inl f1)), (mw, .inl (cZ, 64, .inl f2)), (mt, .inl (cI, 8, .inl fs)), (ml, .inl (cI, 4, .inl fl)), (mk, .inl (cI, 20, .inl fk)), (mv, .inl (cI, 20, .inl fv))] H → va_D A [(mo, .inr (4, [.int kd, .ref mp, .ref mq, .int (nI n), .ref mr, .ref mw, .ref mt, .ref ml, .ref mk, .ref mv, .int em, .int sp, .int rs])), (mp, .inl (cI, 64, .inl fo)), (mq, .inl (cI, 64, .inl fn)), (mr, .inl (cI, 576, .inl f1)), (mw, .inl (cZ, 64, .inl f2)), (mt, .inl (cI, 8, .inl fs)), (ml, .inl (cI, 4, .inl fl)), (mk, .inl (cI, 20, .inl fk)), (mv, .inl (cI, 20, .inl fv))] → RI kd (acOf kd) n fo fn (fun _ => False) r1 f1 f2 → ((mr1 = 1 ∧ 576 - cnt2 r1 < K) ∨ (mr1 = 0 ∧ ∀ e, e < 9 * n → ¬ r1 e = 1)) → va_S A s.heap H locs → W p l e (headSpec w_Model_fill (rmk 2)).room s m ([.ref mo] : List Value).toArray below meth c H locs 0 0 (MQ below (va_Qv (fun u : (Nat → Int32) × (Nat → Int32) => FillR kd (acOf kd) n fo fn u.1 u.2) (fun u t => ME D A [(mo, .inr (4, [.int kd, .ref mp, .ref mq, .int (nI n), .ref mr, .ref mw, .ref mt, .ref ml, .ref mk, .ref mv, .int em, .int sp, .int rs])), (mp, .inl (cI, 64, .inl fo)), (mq, .inl (cI, 64, .inl fn)), (mr, .inl (cI, 576, .inl u.1)), (mw, .inl (cZ, 64, .inl u.2)), (mt, .inl (cI, 8, .inl fs)), (ml, .inl (cI, 4, .inl fl)), (mk, .inl (cI, 20, .inl fk)), (mv, .inl (cI, 20, .inl fv))] t) A) ([.ref mo] : List Value).toArray s 0 0 A) (F0 m 67 ls []) := by
                  intro K
                  induction K with
                  | zero =>
                    intro r1 f1 f2 mr1 H locs ls hl hP hD hI hm hS
                    refine lv_iload_n hx hb d_Model_fill_67 rfl (lv_at hl 0 rfl) ?_
                    refine lv_if_eq (tgt := 129) hx hb d_Model_fill_68 (by decide) (fun h4 => ?_) (fun h4 => ?_)
                    · -- mr1 = 0
                      refine W.vret hx hb hr (fun t ht hW => ⟨⟨(f1, f2), rfl, ?_, ?_⟩, hS.F ht⟩) hS.2.2 d_Model_fill_129
                      · exact fill_ok h0n hn hI (by rcases hm with hm | hm; exact absurd (hm.1.symm.trans h4) (by decide); exact hm.2)
                      · exact ⟨by rw [ht]; exact hP.sub [0, 1, 2, 3, 4, 5, 6, 7, 8] rfl, hD.sub [0, 1, 2, 3, 4, 5, 6, 7, 8] (by decide) rfl⟩
                    · -- ¬ mr1 = 0
                      (rcases hm with hm | hm; exact absurd hm.2 (Nat.not_lt_zero _); exact absurd hm.1 h4)
                  | succ K ih0 =>
                    intro r1 f1 f2 mr1 H locs ls hl hP hD hI hm hS
                    refine lv_iload_n hx hb d_Model_fill_67 rfl (lv_at hl 0 rfl) ?_
                    refine lv_if_eq (tgt := 129) hx hb d_Model_fill_68 (by decide) (fun h5 => ?_) (fun h5 => ?_)
                    · -- mr1 = 0
                      refine W.vret hx hb hr (fun t ht hW => ⟨⟨(f1, f2), rfl, ?_, ?_⟩, hS.F ht⟩) hS.2.2 d_Model_fill_129
                      · exact fill_ok h0n hn hI (by rcases hm with hm | hm; exact absurd (hm.1.symm.trans h5) (by decide); exact hm.2)
                      · exact ⟨by rw [ht]; exact hP.sub [0, 1, 2, 3, 4, 5, 6, 7, 8] rfl, hD.sub [0, 1, 2, 3, 4, 5, 6, 7, 8] (by decide) rfl⟩
                    · -- ¬ mr1 = 0
                      have hm : mr1 = 1 ∧ 576 - cnt2 r1 < K + 1 := hm.resolve_right (fun q => h5 q.1)
                      refine lv_iconst (v := 0) hx hb d_Model_fill_71 (by decide) ?_
                      refine lv_istore_n hx hb d_Model_fill_72 rfl hl (by decide) rfl (fun ls hl => ?_)
                      have hl : lv_has ls 3 [(1, .int 0), (0, .ref mo)] := hl
                      refine lv_iconst (v := 0) hx hb d_Model_fill_73 (by decide) ?_
                      refine lv_istore_n hx hb d_Model_fill_74 rfl hl (by decide) rfl (fun ls hl => ?_)
                      have hl : lv_has ls 3 [(2, .int 0), (1, .int 0), (0, .ref mo)] := hl
                      have key3 : ∀ (P : Nat) (j3 : Nat) (r3 : Nat → Nat) (f3 f4 : Nat → Int32) (mr3 : Int32) (H : Heap) (locs : List Loc) (ls : Array Slot), j3 + P = 9 * n → lv_has ls 3 [(2, .int (nI j3)), (1, .int mr3), (0, .ref mo)] → va_P D classes [(mo, .inr (4, [.int kd, .ref mp, .ref mq, .int (nI n), .ref mr, .ref mw, .ref mt, .ref ml, .ref mk, .ref mv, .int em, .int sp, .int rs])), (mp, .inl (cI, 64, .inl fo)), (mq, .inl (cI, 64, .inl fn)), (mr, .inl (cI, 576, .inl f3)), (mw, .inl (cZ, 64, .inl f4)), (mt, .inl (cI, 8, .inl fs)), (ml, .inl (cI, 4, .inl fl)), (mk, .inl (cI, 20, .inl fk)), (mv, .inl (cI, 20, .inl fv))] H → va_D A [(mo, .inr (4, [.int kd, .ref mp, .ref mq, .int (nI n), .ref mr, .ref mw, .ref mt, .ref ml, .ref mk, .ref mv, .int em, .int sp, .int rs])), (mp, .inl (cI, 64, .inl fo)), (mq, .inl (cI, 64, .inl fn)), (mr, .inl (cI, 576, .inl f3)), (mw, .inl (cZ, 64, .inl f4)), (mt, .inl (cI, 8, .inl fs)), (ml, .inl (cI, 4, .inl fl)), (mk, .inl (cI, 20, .inl fk)), (mv, .inl (cI, 20, .inl fv))] → RI kd (acOf kd) n fo fn (fun _ => False) r3 f3 f4 → ((mr3 = 0 ∧ (∀ e, e < j3 → ¬ r3 e = 1) ∧ cnt2 r1 ≤ cnt2 r3) ∨ (mr3 = 1 ∧ cnt2 r1 < cnt2 r3)) → va_S A s.heap H locs → W p l e (headSpec w_Model_fill (rmk 2)).room s m ([.ref mo] : List Value).toArray below meth c H locs 0 0 (MQ below (va_Qv (fun u : (Nat → Int32) × (Nat → Int32) => FillR kd (acOf kd) n fo fn u.1 u.2) (fun u t => ME D A [(mo, .inr (4, [.int kd, .ref mp, .ref mq, .int (nI n), .ref mr, .ref mw, .ref mt, .ref ml, .ref mk, .ref mv, .int em, .int sp, .int rs])), (mp, .inl (cI, 64, .inl fo)), (mq, .inl (cI, 64, .inl fn)), (mr, .inl (cI, 576, .inl u.1)), (mw, .inl (cZ, 64, .inl u.2)), (mt, .inl (cI, 8, .inl fs)), (ml, .inl (cI, 4, .inl fl)), (mk, .inl (cI, 20, .inl fk)), (mv, .inl (cI, 20, .inl fv))] t) A) ([.ref mo] : List Value).toArray s 0 0 A) (F0 m 75 ls []) := by
                        intro P
                        induction P with
                        | zero =>
                          intro j3 r3 f3 f4 mr3 H locs ls hjN hl hP hD hI hq hS
                          refine lv_iload_n hx hb d_Model_fill_75 rfl (lv_at hl 0 rfl) ?_
                          refine lv_bipush (v := 9) hx hb d_Model_fill_76 (by decide) ?_
                          refine lv_aload_n hx hb d_Model_fill_78 rfl (lv_at hl 2 rfl) ?_
                          refine va_get (D := D) (ci := 4) (v := .int (nI n)) (C := R_Model) (T := F_Model) (N := 13) hx hb hts in_Model hown hE.1 hP 0 rfl rfl 3 (by decide) (hts _ k_319) (fun _ h9 => h9) rfl d_Model_fill_79 ?_
                          refine lv_imul hx hb d_Model_fill_82 ?_
                          refine lv_eqi (y := (nI (9 * n))) (mul9 n) ?_
                          refine lv_icmp_ge (tgt := 126) hx hb d_Model_fill_83 (by decide) (fun h6 => ?_) (fun h6 => ?_)
                          · -- (nI (9 * n)) ≤ (nI j3)
                            refine lv_goto (tgt := 67) hx hb d_Model_fill_126 (by decide) ?_
                            exact ih0 r3 _ _ _ _ _ _ (lv_sub hl [1, 2] rfl) hP hD hI (hq.elim (fun hq => Or.inr ⟨hq.1, fun e he => hq.2.1 e (by omega)⟩) (fun hq => Or.inl ⟨hq.1, by have := cnt2_le r3; omega⟩)) hS
                          · -- ¬ (nI (9 * n)) ≤ (nI j3)
                            exact absurd (nI_le (by omega) (by omega)) h6
                        | succ P ih3 =>
                          intro j3 r3 f3 f4 mr3 H locs ls hjN hl hP hD hI hq hS
                          refine lv_iload_n hx hb d_Model_fill_75 rfl (lv_at hl 0 rfl) ?_
                          refine lv_bipush (v := 9) hx hb d_Model_fill_76 (by decide) ?_
                          refine lv_aload_n hx hb d_Model_fill_78 rfl (lv_at hl 2 rfl) ?_
                          refine va_get (D := D) (ci := 4) (v := .int (nI n)) (C := R_Model) (T := F_Model) (N := 13) hx hb hts in_Model hown hE.1 hP 0 rfl rfl 3 (by decide) (hts _ k_319) (fun _ h9 => h9) rfl d_Model_fill_79 ?_
                          refine lv_imul hx hb d_Model_fill_82 ?_
                          refine lv_eqi (y := (nI (9 * n))) (mul9 n) ?_
                          refine lv_icmp_ge (tgt := 126) hx hb d_Model_fill_83 (by decide) (fun h7 => ?_) (fun h7 => ?_)
                          · -- (nI (9 * n)) ≤ (nI j3)
                            exact absurd h7 (nI_ge (by omega) (by omega))
                          · -- ¬ (nI (9 * n)) ≤ (nI j3)
                            refine lv_aload_n hx hb d_Model_fill_86 rfl (lv_at hl 2 rfl) ?_
                            refine va_get (D := D) (ci := 4) (v := .ref mr) (C := R_Model) (T := F_Model) (N := 13) hx hb hts in_Model hown hE.1 hP 0 rfl rfl 4 (by decide) (hts _ k_320) (fun _ h9 => h9) rfl d_Model_fill_87 ?_
                            refine lv_iload_n hx hb d_Model_fill_90 rfl (lv_at hl 0 rfl) ?_
                            refine va_iald hx hb hE.1 hP 3 0 rfl rfl (vp_in_nI (by omega) (by decide)) d_Model_fill_91 ?_
                            refine lv_eqi (y := f3 j3) (congrArg f3 (nI_clamp (show j3 < 2 ^ 31 by omega))) ?_
                            refine lv_iconst (v := 1) hx hb d_Model_fill_92 (by decide) ?_
                            refine lv_icmp_eq (tgt := 99) hx hb d_Model_fill_93 (by decide) (fun h8 => ?_) (fun h8 => ?_)
                            · -- (f3 j3) = 1
                              have hrj : r3 j3 = 1 := (nI_eq (by have := (hI.1 j3 (by omega)).2; omega) (by omega)).mp (show nI (r3 j3) = nI 1 from (hI.1 j3 (by omega)).1.symm.trans h8)
                              refine lv_aload_n hx hb d_Model_fill_99 rfl (lv_at hl 2 rfl) ?_
                              refine va_get (D := D) (ci := 4) (v := .ref mr) (C := R_Model) (T := F_Model) (N := 13) hx hb hts in_Model hown hE.1 hP 0 rfl rfl 4 (by decide) (hts _ k_320) (fun _ h9 => h9) rfl d_Model_fill_100 ?_
                              refine lv_iload_n hx hb d_Model_fill_103 rfl (lv_at hl 0 rfl) ?_
                              refine lv_iconst (v := 2) hx hb d_Model_fill_104 (by decide) ?_
                              refine va_iast hx hb hE.1 hP hD hS 3 0 rfl rfl (vp_in_nI (by omega) (by decide)) d_Model_fill_105 (fun H locs hP hD hS => ?_)
                              rw [nI_clamp (show j3 < 2 ^ 31 by omega)] at hP hD
                              have hP : va_P D classes [(mo, .inr (4, [.int kd, .ref mp, .ref mq, .int (nI n), .ref mr, .ref mw, .ref mt, .ref ml, .ref mk, .ref mv, .int em, .int sp, .int rs])), (mp, .inl (cI, 64, .inl fo)), (mq, .inl (cI, 64, .inl fn)), (mr, .inl (cI, 576, .inl (upd f3 j3 2))), (mw, .inl (cZ, 64, .inl f4)), (mt, .inl (cI, 8, .inl fs)), (ml, .inl (cI, 4, .inl fl)), (mk, .inl (cI, 20, .inl fk)), (mv, .inl (cI, 20, .inl fv))] H := hP
                              have hD : va_D A [(mo, .inr (4, [.int kd, .ref mp, .ref mq, .int (nI n), .ref mr, .ref mw, .ref mt, .ref ml, .ref mk, .ref mv, .int em, .int sp, .int rs])), (mp, .inl (cI, 64, .inl fo)), (mq, .inl (cI, 64, .inl fn)), (mr, .inl (cI, 576, .inl (upd f3 j3 2))), (mw, .inl (cZ, 64, .inl f4)), (mt, .inl (cI, 8, .inl fs)), (ml, .inl (cI, 4, .inl fl)), (mk, .inl (cI, 20, .inl fk)), (mv, .inl (cI, 20, .inl fv))] := hD
                              refine lv_iconst (v := 1) hx hb d_Model_fill_106 (by decide) ?_
                              refine lv_istore_n hx hb d_Model_fill_107 rfl hl (by decide) rfl (fun ls hl => ?_)
                              have hl : lv_has ls 3 [(1, .int 1), (2, .int (nI j3)), (0, .ref mo)] := hl
                              refine lv_aload_n hx hb d_Model_fill_108 rfl (lv_at hl 2 rfl) ?_
                              refine lv_iload_n hx hb d_Model_fill_109 rfl (lv_at hl 1 rfl) ?_
                              refine lv_bipush (v := 9) hx hb d_Model_fill_110 (by decide) ?_
                              refine lv_idiv hx hb d_Model_fill_112 (by decide) ?_
                              refine lv_eqi (y := (nI (j3 / 9))) (div9 (by omega)) ?_
                              refine lv_iload_n hx hb d_Model_fill_113 rfl (lv_at hl 1 rfl) ?_
                              refine lv_bipush (v := 9) hx hb d_Model_fill_114 (by decide) ?_
                              refine lv_irem hx hb d_Model_fill_116 (by decide) ?_
                              refine lv_eqi (y := (nI (j3 % 9))) (rem9 (by omega)) ?_
                              have hPc := hP.sub (ws' := [(mo, .inr (4, [.int kd, .ref mp, .ref mq, .int (nI n), .ref mr, .ref mw, .ref mt, .ref ml, .ref mk, .ref mv, .int em, .int sp, .int rs])), (mp, .inl (cI, 64, .inl fo)), (mq, .inl (cI, 64, .inl fn)), (mr, .inl (cI, 576, .inl (upd f3 j3 2))), (mw, .inl (cZ, 64, .inl f4)), (mt, .inl (cI, 8, .inl fs)), (ml, .inl (cI, 4, .inl fl)), (mk, .inl (cI, 20, .inl fk)), (mv, .inl (cI, 20, .inl fv))]) [0, 1, 2, 3, 4, 5, 6, 7, 8] rfl
                              have hDc := hD.sub (ws' := [(mo, .inr (4, [.int kd, .ref mp, .ref mq, .int (nI n), .ref mr, .ref mw, .ref mt, .ref ml, .ref mk, .ref mv, .int em, .int sp, .int rs])), (mp, .inl (cI, 64, .inl fo)), (mq, .inl (cI, 64, .inl fn)), (mr, .inl (cI, 576, .inl (upd f3 j3 2))), (mw, .inl (cZ, 64, .inl f4)), (mt, .inl (cI, 8, .inl fs)), (ml, .inl (cI, 4, .inl fl)), (mk, .inl (cI, 20, .inl fk)), (mv, .inl (cI, 20, .inl fv))]) [0, 1, 2, 3, 4, 5, 6, 7, 8] (by decide) rfl
                              have hFc := va_free (wc := [(mo, .inr (4, [.int kd, .ref mp, .ref mq, .int (nI n), .ref mr, .ref mw, .ref mt, .ref ml, .ref mk, .ref mv, .int em, .int sp, .int rs])), (mp, .inl (cI, 64, .inl fo)), (mq, .inl (cI, 64, .inl fn)), (mr, .inl (cI, 576, .inl (upd f3 j3 2))), (mw, .inl (cZ, 64, .inl f4)), (mt, .inl (cI, 8, .inl fs)), (ml, .inl (cI, 4, .inl fl)), (mk, .inl (cI, 20, .inl fk)), (mv, .inl (cI, 20, .inl fv))]) hD hS hA [0, 1, 2, 3, 4, 5, 6, 7, 8] rfl
                              refine va_callv (va_runV (As := [.int (nI (j3 / 9)), .int (nI (j3 % 9))]) (rest := []) ⟨hx, hb, hml, hown, hts⟩ (c_Model_goOn l D cI cZ H.size mo mp mq mr mw mt ml mk mv kd n fo fn (upd f3 j3 2) f4 fs fl fk fv em sp rs (j3 / 9) (j3 % 9) hk hn (by omega) (by omega)) (cwV 2 hts (gd4 k_381 k_383 k_13 k_22 k_384) rfl rfl rfl (by decide +kernel) ⟨Nat.le_of_ble_eq_true rfl, Nat.le_of_ble_eq_true rfl⟩) ⟨MY_blind, va_recv (q0 := 0) (ci := 4) hE.1 hP rfl rfl, my_pre hE hPc hDc⟩ rfl rfl hl.1 rfl (lv_room (Nat.le_of_ble_eq_true rfl)) d_Model_fill_117 ⟨Nat.zero_le _, Nat.zero_le _⟩) hS (fun q _ h => hFc q h) hFc (fun u t H1 locs ht hvm hw hB hz1 hk1 hS => ?_)
                              obtain ⟨hP1, hD1⟩ := hB
                              rw [ht] at hP1
                              obtain ⟨f5, f6⟩ := u
                              have hG := hw
                              obtain ⟨hP, hD⟩ := va_join (wr := []) (w1 := [(mo, .inr (4, [.int kd, .ref mp, .ref mq, .int (nI n), .ref mr, .ref mw, .ref mt, .ref ml, .ref mk, .ref mv, .int em, .int sp, .int rs])), (mp, .inl (cI, 64, .inl fo)), (mq, .inl (cI, 64, .inl fn)), (mr, .inl (cI, 576, .inl f5)), (mw, .inl (cZ, 64, .inl f6)), (mt, .inl (cI, 8, .inl fs)), (ml, .inl (cI, 4, .inl fl)), (mk, .inl (cI, 20, .inl fk)), (mv, .inl (cI, 20, .inl fv))]) hP hD [0, 1, 2, 3, 4, 5, 6, 7, 8] [] rfl rfl (by decide) (by decide) hk1 hFc hP1 hD1
                              generalize H1 = H at hP hS ⊢
                              have hP : va_P D classes [(mo, .inr (4, [.int kd, .ref mp, .ref mq, .int (nI n), .ref mr, .ref mw, .ref mt, .ref ml, .ref mk, .ref mv, .int em, .int sp, .int rs])), (mp, .inl (cI, 64, .inl fo)), (mq, .inl (cI, 64, .inl fn)), (mr, .inl (cI, 576, .inl f5)), (mw, .inl (cZ, 64, .inl f6)), (mt, .inl (cI, 8, .inl fs)), (ml, .inl (cI, 4, .inl fl)), (mk, .inl (cI, 20, .inl fk)), (mv, .inl (cI, 20, .inl fv))] H := hP
                              have hD : va_D A [(mo, .inr (4, [.int kd, .ref mp, .ref mq, .int (nI n), .ref mr, .ref mw, .ref mt, .ref ml, .ref mk, .ref mv, .int em, .int sp, .int rs])), (mp, .inl (cI, 64, .inl fo)), (mq, .inl (cI, 64, .inl fn)), (mr, .inl (cI, 576, .inl f5)), (mw, .inl (cZ, 64, .inl f6)), (mt, .inl (cI, 8, .inl fs)), (ml, .inl (cI, 4, .inl fl)), (mk, .inl (cI, 20, .inl fk)), (mv, .inl (cI, 20, .inl fv))] := hD
                              refine lv_iinc (v := ((nI j3) + 1)) (k := 1) hx hb d_Model_fill_120 hl rfl rfl (by decide) rfl (fun ls hl => ?_)
                              have hl : lv_has ls 3 [(2, .int ((nI j3) + 1)), (1, .int 1), (0, .ref mo)] := hl
                              refine lv_goto (tgt := 75) hx hb d_Model_fill_123 (by decide) ?_
                              rw [nI_1] at hl
                              obtain ⟨r4, hI4, h24⟩ := go_ok hn (by omega) (by omega) (hI.2.1 j3 (by omega) (by rw [hrj]; decide)) (mark_RI hn (by omega) hI hrj) hG
                              have hc4 : cnt2 r4 = cnt2 r3 + 1 := by rw [cnt2_congr h24, cnt2_up (by omega) (by rw [hrj]; decide)]
                              exact ih3 (j3 + 1) r4 _ _ 1 _ _ _ (by omega) (lv_sub hl [0, 1, 2] rfl) hP hD hI4 (Or.inr ⟨rfl, by rcases hq with hq | hq <;> omega⟩) hS
                            · -- ¬ (f3 j3) = 1
                              refine lv_goto (tgt := 120) hx hb d_Model_fill_96 (by decide) ?_
                              refine lv_iinc (v := ((nI j3) + 1)) (k := 0) hx hb d_Model_fill_120 hl rfl rfl (by decide) rfl (fun ls hl => ?_)
                              have hl : lv_has ls 3 [(2, .int ((nI j3) + 1)), (1, .int mr3), (0, .ref mo)] := hl
                              refine lv_goto (tgt := 75) hx hb d_Model_fill_123 (by decide) ?_
                              rw [nI_1] at hl
                              exact ih3 (j3 + 1) r3 _ _ _ _ _ _ (by omega) (lv_sub hl [0, 1, 2] rfl) hP hD hI (hq.imp (fun hq => ⟨hq.1, fun e he => by
                                by_cases q : e = j3
                                · rw [q]; exact fun z => h8 (by rw [(hI.1 j3 (by omega)).1, z]; rfl)
                                · exact hq.2.1 e (by omega), hq.2.2⟩) (fun hq => hq)) hS
                      exact key3 (9 * n) 0 _ _ _ 0 H locs ls (Nat.zero_add _) (lv_sub hl [0, 1, 2] rfl) hP hD hI (Or.inl ⟨rfl, fun e h => absurd h (Nat.not_lt_zero e), Nat.le_refl _⟩) hS
                exact key0 577 _ _ _ 1 H locs ls (lv_sub hl [0, 1] rfl) hP hD hI (Or.inl ⟨rfl, by omega⟩) hS
            · -- ¬ (nI n) ≤ (nI q)
              exact absurd (nI_le (by omega) (by omega)) h2
          | succ M ih2 =>
            intro q y H locs ls hqN hl hP hD hw hS
            refine lv_iload_n hx hb d_Model_fill_26 rfl (lv_at hl 0 rfl) ?_
            refine lv_aload_n hx hb d_Model_fill_27 rfl (lv_at hl 1 rfl) ?_
            refine va_get (D := D) (ci := 4) (v := .int (nI n)) (C := R_Model) (T := F_Model) (N := 13) hx hb hts in_Model hown hE.1 hP 0 rfl rfl 3 (by decide) (hts _ k_319) (fun _ h9 => h9) rfl d_Model_fill_28 ?_
            refine lv_icmp_ge (tgt := 51) hx hb d_Model_fill_31 (by decide) (fun h9 => ?_) (fun h9 => ?_)
            · -- (nI n) ≤ (nI q)
              exact absurd h9 (nI_ge (by omega) (by omega))
            · -- ¬ (nI n) ≤ (nI q)
              refine lv_aload_n hx hb d_Model_fill_34 rfl (lv_at hl 1 rfl) ?_
              refine va_get (D := D) (ci := 4) (v := .ref mw) (C := R_Model) (T := F_Model) (N := 13) hx hb hts in_Model hown hE.1 hP 0 rfl rfl 5 (by decide) (hts _ k_321) (fun _ h9 => h9) rfl d_Model_fill_35 ?_
              refine lv_iload_n hx hb d_Model_fill_38 rfl (lv_at hl 0 rfl) ?_
              refine lv_aload_n hx hb d_Model_fill_39 rfl (lv_at hl 1 rfl) ?_
              refine lv_iload_n hx hb d_Model_fill_40 rfl (lv_at hl 0 rfl) ?_
              refine vp_callSi (va_Run.run (va_runV (As := [.int (nI q)]) (rest := [.int (nI q), .ref mw]) ⟨hx, hb, hml, hown, hts⟩ (c_Model_isBad l D cI cZ mo mp mq mr mw mt ml mk mv kd n fo fn g y fs fl fk fv em sp rs q (by omega)) (cwV 1 hts (gd4 k_377 k_379 k_12 k_22 k_380) rfl rfl rfl (by decide +kernel) ⟨Nat.le_of_ble_eq_true rfl, Nat.le_of_ble_eq_true rfl⟩) ⟨PY_blind, va_recv (q0 := 0) (ci := 4) hE.1 hP rfl rfl, py_pre hE (hP.sub [0, 1, 2, 3, 4, 5, 6, 7, 8] rfl)⟩ rfl rfl hl.1 rfl (lv_room (Nat.le_of_ble_eq_true rfl)) d_Model_fill_41 ⟨Nat.zero_le _, Nat.zero_le _⟩)) (fun r hq => ?_)
              subst hq
              refine va_zast hx hb hE.1 hP hD hS 4 1 rfl rfl (vp_in_nI (by omega) (by decide)) d_Model_fill_44 (fun H locs hP hD hS => ?_)
              rw [nI_clamp (show q < 2 ^ 31 by omega)] at hP hD
              rw [nar01 (bad01 kd (nI n) (fo q) (fn q))] at hP hD
              have hP : va_P D classes [(mo, .inr (4, [.int kd, .ref mp, .ref mq, .int (nI n), .ref mr, .ref mw, .ref mt, .ref ml, .ref mk, .ref mv, .int em, .int sp, .int rs])), (mp, .inl (cI, 64, .inl fo)), (mq, .inl (cI, 64, .inl fn)), (mr, .inl (cI, 576, .inl g)), (mw, .inl (cZ, 64, .inl (upd y q (v_bad kd (nI n) (fo q) (fn q))))), (mt, .inl (cI, 8, .inl fs)), (ml, .inl (cI, 4, .inl fl)), (mk, .inl (cI, 20, .inl fk)), (mv, .inl (cI, 20, .inl fv))] H := hP
              have hD : va_D A [(mo, .inr (4, [.int kd, .ref mp, .ref mq, .int (nI n), .ref mr, .ref mw, .ref mt, .ref ml, .ref mk, .ref mv, .int em, .int sp, .int rs])), (mp, .inl (cI, 64, .inl fo)), (mq, .inl (cI, 64, .inl fn)), (mr, .inl (cI, 576, .inl g)), (mw, .inl (cZ, 64, .inl (upd y q (v_bad kd (nI n) (fo q) (fn q))))), (mt, .inl (cI, 8, .inl fs)), (ml, .inl (cI, 4, .inl fl)), (mk, .inl (cI, 20, .inl fk)), (mv, .inl (cI, 20, .inl fv))] := hD
              refine lv_iinc (v := ((nI q) + 1)) (k := 0) hx hb d_Model_fill_45 hl rfl rfl (by decide) rfl (fun ls hl => ?_)
              have hl : lv_has ls 3 [(1, .int ((nI q) + 1)), (0, .ref mo)] := hl
              refine lv_goto (tgt := 26) hx hb d_Model_fill_48 (by decide) ?_
              rw [nI_1] at hl
              exact ih2 (q + 1) _ _ _ _ (by omega) hl hP hD (fun i hi => by
                unfold upd
                by_cases hij : i = q
                · rw [if_pos hij, hij]; exact bad_if hk hn (by omega)
                · rw [if_neg hij]; exact hw i (by omega)) hS
        exact key2 n 0 fW H locs ls (Nat.zero_add n) (lv_sub hl [0, 1] rfl) hP hD (fun i h => absurd h (Nat.not_lt_zero i)) hS
      · -- ¬ (nI 576) ≤ (nI j)
        exact absurd (nI_le (by omega) (by omega)) h1
    | succ N ih =>
      intro j g H locs ls hjN hl hP hD hg hS
      refine lv_iload_n hx hb d_Model_fill_2 rfl (lv_at hl 0 rfl) ?_
      refine lv_aload_n hx hb d_Model_fill_3 rfl (lv_at hl 1 rfl) ?_
      refine va_get (D := D) (ci := 4) (v := .ref mr) (C := R_Model) (T := F_Model) (N := 13) hx hb hts in_Model hown hE.1 hP 0 rfl rfl 4 (by decide) (hts _ k_320) (fun _ h9 => h9) rfl d_Model_fill_4 ?_
      refine va_alen (v := (nI 576)) hx hb hE.1 hP 3 0 rfl rfl rfl d_Model_fill_7 ?_
      refine lv_icmp_ge (tgt := 24) hx hb d_Model_fill_8 (by decide) (fun h10 => ?_) (fun h10 => ?_)
      · -- (nI 576) ≤ (nI j)
        exact absurd h10 (nI_ge (by omega) (by omega))
      · -- ¬ (nI 576) ≤ (nI j)
        refine lv_aload_n hx hb d_Model_fill_11 rfl (lv_at hl 1 rfl) ?_
        refine va_get (D := D) (ci := 4) (v := .ref mr) (C := R_Model) (T := F_Model) (N := 13) hx hb hts in_Model hown hE.1 hP 0 rfl rfl 4 (by decide) (hts _ k_320) (fun _ h9 => h9) rfl d_Model_fill_12 ?_
        refine lv_iload_n hx hb d_Model_fill_15 rfl (lv_at hl 0 rfl) ?_
        refine lv_iconst (v := 0) hx hb d_Model_fill_16 (by decide) ?_
        refine va_iast hx hb hE.1 hP hD hS 3 0 rfl rfl (vp_in_nI (by omega) (by decide)) d_Model_fill_17 (fun H locs hP hD hS => ?_)
        rw [nI_clamp (show j < 2 ^ 31 by omega)] at hP hD
        have hP : va_P D classes [(mo, .inr (4, [.int kd, .ref mp, .ref mq, .int (nI n), .ref mr, .ref mw, .ref mt, .ref ml, .ref mk, .ref mv, .int em, .int sp, .int rs])), (mp, .inl (cI, 64, .inl fo)), (mq, .inl (cI, 64, .inl fn)), (mr, .inl (cI, 576, .inl (upd g j 0))), (mw, .inl (cZ, 64, .inl fW)), (mt, .inl (cI, 8, .inl fs)), (ml, .inl (cI, 4, .inl fl)), (mk, .inl (cI, 20, .inl fk)), (mv, .inl (cI, 20, .inl fv))] H := hP
        have hD : va_D A [(mo, .inr (4, [.int kd, .ref mp, .ref mq, .int (nI n), .ref mr, .ref mw, .ref mt, .ref ml, .ref mk, .ref mv, .int em, .int sp, .int rs])), (mp, .inl (cI, 64, .inl fo)), (mq, .inl (cI, 64, .inl fn)), (mr, .inl (cI, 576, .inl (upd g j 0))), (mw, .inl (cZ, 64, .inl fW)), (mt, .inl (cI, 8, .inl fs)), (ml, .inl (cI, 4, .inl fl)), (mk, .inl (cI, 20, .inl fk)), (mv, .inl (cI, 20, .inl fv))] := hD
        refine lv_iinc (v := ((nI j) + 1)) (k := 0) hx hb d_Model_fill_18 hl rfl rfl (by decide) rfl (fun ls hl => ?_)
        have hl : lv_has ls 3 [(1, .int ((nI j) + 1)), (0, .ref mo)] := hl
        refine lv_goto (tgt := 2) hx hb d_Model_fill_21 (by decide) ?_
        rw [nI_1] at hl
        exact ih (j + 1) _ _ _ _ (by omega) hl hP hD (fun i hi => by
          unfold upd
          by_cases hij : i = j
          · rw [if_pos hij]
          · rw [if_neg hij]; exact hg i (by omega)) hS
  exact key 576 0 fR s.heap [] ls rfl hl hP hD (fun i h => absurd h (Nat.not_lt_zero i)) hS
end
