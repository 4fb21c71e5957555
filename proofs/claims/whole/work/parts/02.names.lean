/-! words that stay: of the tables' words those that every later state keeps; what methods take as given -/
def isG (w : Cond) : Bool := (w.onTables && w.keeps) || (match w with | .arrayClass _ => true | _ => false)
theorem isG_good {w : Cond} (h : isG w = true) : (w.onTables && w.keeps) = true ∨ ∃ ty, w = .arrayClass ty := by
  unfold isG at h
  rw [Bool.or_eq_true] at h
  rcases h with h | h
  · exact Or.inl h
  · cases w <;> first | exact Or.inr ⟨_, rfl⟩ | exact absurd h Bool.false_ne_true
def gW : List Cond := lw_tbl.filter isG
theorem gW_mem (i : Nat) {w : Cond} (h : lw_tbl[i]? = some w) (hg : isG w = true) : w ∈ gW := List.mem_filter.mpr ⟨List.mem_of_getElem? h, hg⟩
theorem gW_good {w : Cond} (h : w ∈ gW) : (w.onTables && w.keeps) = true ∨ ∃ ty, w = .arrayClass ty := isG_good (List.mem_filter.mp h).2
theorem gd {c : Cond} (h : c ∈ gW) : GoodIn gW (c :: gW) := by
  intro w hw
  rcases List.mem_cons.mp hw with rfl | h1
  · exact ⟨h, gW_good h⟩
  · exact ⟨h1, gW_good h1⟩
theorem gd4 {a b c d x : Cond} (ha : a ∈ gW) (hb : b ∈ gW) (hc : c ∈ gW) (hd : d ∈ gW) (hx : x ∈ gW) : GoodIn gW (([a, b, c, d] : List Cond) ++ (x :: gW)) := by
  intro w hw
  have hm : w ∈ gW := by
    rcases List.mem_append.mp hw with h | h
    · simp only [List.mem_cons, List.not_mem_nil, or_false] at h
      rcases h with rfl | rfl | rfl | rfl <;> assumption
    · rcases List.mem_cons.mp h with rfl | h1 <;> assumption
  exact ⟨hm, gW_good hm⟩
theorem gd3 {a b c x : Cond} (ha : a ∈ gW) (hb : b ∈ gW) (hc : c ∈ gW) (hx : x ∈ gW) : GoodIn gW (([a, b, c] : List Cond) ++ (x :: gW)) := by
  intro w hw
  have hm : w ∈ gW := by
    rcases List.mem_append.mp hw with h | h
    · simp only [List.mem_cons, List.not_mem_nil, or_false] at h
      rcases h with rfl | rfl | rfl <;> assumption
    · rcases List.mem_cons.mp h with rfl | h1 <;> assumption
  exact ⟨hm, gW_good hm⟩
def R_SJ : String := "StackJudge"
def R_Program : String := "StackJudge$Program"
def R_Ways : String := "StackJudge$Ways"
def R_Machine : String := "StackJudge$Machine"
def R_Op : String := "StackJudge$Op"
def R_Model : String := "StackJudgeModel"
def R_Law : String := "StackJudgeLaw"
def R_Arrays : String := "java/util/Arrays"
def R_Integer : String := "java/lang/Integer"
abbrev b_SJ_init : ByteArray := prog_1_method_1_code
def y_SJ_init : MethodName := ⟨R_SJ, "<init>", "(I)V"⟩
abbrev b_SJ_code : ByteArray := prog_1_method_2_code
def y_SJ_code : MethodName := ⟨R_SJ, "code", "(II)I"⟩
abbrev b_SJ_clear : ByteArray := prog_1_method_3_code
def y_SJ_clear : MethodName := ⟨R_SJ, "clear", "()I"⟩
abbrev b_SJ_drop : ByteArray := prog_1_method_4_code
def y_SJ_drop : MethodName := ⟨R_SJ, "drop", "()I"⟩
abbrev b_SJ_check : ByteArray := prog_1_method_5_code
def y_SJ_check : MethodName := ⟨R_SJ, "check", "()I"⟩
abbrev b_SJ_heights : ByteArray := prog_1_method_6_code
def y_SJ_heights : MethodName := ⟨R_SJ, "heights", "(I)I"⟩
abbrev b_SJ_call : ByteArray := prog_1_method_7_code
def y_SJ_call : MethodName := ⟨R_SJ, "call", "(III)I"⟩
abbrev b_SJ_result : ByteArray := prog_1_method_8_code
def y_SJ_result : MethodName := ⟨R_SJ, "result", "()I"⟩
abbrev b_SJ_steps : ByteArray := prog_1_method_9_code
def y_SJ_steps : MethodName := ⟨R_SJ, "steps", "()I"⟩
abbrev b_SJ_pairs : ByteArray := prog_1_method_10_code
def y_SJ_pairs : MethodName := ⟨R_SJ, "pairs", "()I"⟩
abbrev b_SJ_pair : ByteArray := prog_1_method_11_code
def y_SJ_pair : MethodName := ⟨R_SJ, "pair", "(II)J"⟩
abbrev b_SJ_read : ByteArray := prog_1_method_12_code
def y_SJ_read : MethodName := ⟨R_SJ, "read", "([II)I"⟩
abbrev b_SJ_write : ByteArray := prog_1_method_13_code
def y_SJ_write : MethodName := ⟨R_SJ, "write", "([III)V"⟩
abbrev b_Model_init : ByteArray := prog_8_method_1_code
def y_Model_init : MethodName := ⟨R_Model, "<init>", "(I)V"⟩
abbrev b_Model_code : ByteArray := prog_8_method_2_code
def y_Model_code : MethodName := ⟨R_Model, "code", "(II)I"⟩
abbrev b_Model_clear : ByteArray := prog_8_method_3_code
def y_Model_clear : MethodName := ⟨R_Model, "clear", "()I"⟩
abbrev b_Model_drop : ByteArray := prog_8_method_4_code
def y_Model_drop : MethodName := ⟨R_Model, "drop", "()I"⟩
abbrev b_Model_isBad : ByteArray := prog_8_method_5_code
def y_Model_isBad : MethodName := ⟨R_Model, "isBad", "(I)Z"⟩
abbrev b_Model_needs : ByteArray := prog_8_method_6_code
def y_Model_needs : MethodName := ⟨R_Model, "needs", "(I)I"⟩
abbrev b_Model_grows : ByteArray := prog_8_method_7_code
def y_Model_grows : MethodName := ⟨R_Model, "grows", "(I)I"⟩
abbrev b_Model_reach : ByteArray := prog_8_method_8_code
def y_Model_reach : MethodName := ⟨R_Model, "reach", "(II)V"⟩
abbrev b_Model_goOn : ByteArray := prog_8_method_9_code
def y_Model_goOn : MethodName := ⟨R_Model, "goOn", "(II)V"⟩
abbrev b_Model_fill : ByteArray := prog_8_method_10_code
def y_Model_fill : MethodName := ⟨R_Model, "fill", "()V"⟩
abbrev b_Model_heights : ByteArray := prog_8_method_11_code
def y_Model_heights : MethodName := ⟨R_Model, "heights", "(I)I"⟩
abbrev b_Model_check : ByteArray := prog_8_method_12_code
def y_Model_check : MethodName := ⟨R_Model, "check", "()I"⟩
abbrev b_Model_reckoned : ByteArray := prog_8_method_13_code
def y_Model_reckoned : MethodName := ⟨R_Model, "reckoned", "(III)I"⟩
abbrev b_Model_done : ByteArray := prog_8_method_14_code
def y_Model_done : MethodName := ⟨R_Model, "done", "(III)I"⟩
abbrev b_Model_call : ByteArray := prog_8_method_15_code
def y_Model_call : MethodName := ⟨R_Model, "call", "(III)I"⟩
abbrev b_Model_result : ByteArray := prog_8_method_16_code
def y_Model_result : MethodName := ⟨R_Model, "result", "()I"⟩
abbrev b_Model_steps : ByteArray := prog_8_method_17_code
def y_Model_steps : MethodName := ⟨R_Model, "steps", "()I"⟩
abbrev b_Model_pairs : ByteArray := prog_8_method_18_code
def y_Model_pairs : MethodName := ⟨R_Model, "pairs", "()I"⟩
abbrev b_Model_pair : ByteArray := prog_8_method_19_code
def y_Model_pair : MethodName := ⟨R_Model, "pair", "(II)J"⟩
abbrev b_Machine_init : ByteArray := prog_3_method_1_code
def y_Machine_init : MethodName := ⟨R_Machine, "<init>", "()V"⟩
abbrev b_Machine_run : ByteArray := prog_3_method_2_code
def y_Machine_run : MethodName := ⟨R_Machine, "run", "(LStackJudge$Program;III)I"⟩
abbrev b_Machine_begin : ByteArray := prog_3_method_3_code
def y_Machine_begin : MethodName := ⟨R_Machine, "begin", "(III)V"⟩
abbrev b_Machine_doOne : ByteArray := prog_3_method_4_code
def y_Machine_doOne : MethodName := ⟨R_Machine, "doOne", "(III)I"⟩
abbrev b_Machine_move : ByteArray := prog_3_method_5_code
def y_Machine_move : MethodName := ⟨R_Machine, "move", "(II)V"⟩
abbrev b_Machine_combine : ByteArray := prog_3_method_6_code
def y_Machine_combine : MethodName := ⟨R_Machine, "combine", "(III)I"⟩
abbrev b_Machine_emit : ByteArray := prog_3_method_7_code
def y_Machine_emit : MethodName := ⟨R_Machine, "emit", "()I"⟩
abbrev b_Machine_push : ByteArray := prog_3_method_8_code
def y_Machine_push : MethodName := ⟨R_Machine, "push", "(I)V"⟩
abbrev b_Machine_pop : ByteArray := prog_3_method_9_code
def y_Machine_pop : MethodName := ⟨R_Machine, "pop", "()I"⟩
abbrev b_Op_isOf : ByteArray := prog_4_method_2_code
def y_Op_isOf : MethodName := ⟨R_Op, "isOf", "(II)Z"⟩
abbrev b_Op_needs : ByteArray := prog_4_method_3_code
def y_Op_needs : MethodName := ⟨R_Op, "needs", "(II)I"⟩
abbrev b_Op_growth : ByteArray := prog_4_method_4_code
def y_Op_growth : MethodName := ⟨R_Op, "growth", "(I)I"⟩
abbrev b_Op_jumps : ByteArray := prog_4_method_5_code
def y_Op_jumps : MethodName := ⟨R_Op, "jumps", "(I)Z"⟩
abbrev b_Op_hasNext : ByteArray := prog_4_method_6_code
def y_Op_hasNext : MethodName := ⟨R_Op, "hasNext", "(I)Z"⟩
abbrev b_Program_init : ByteArray := prog_5_method_1_code
def y_Program_init : MethodName := ⟨R_Program, "<init>", "(I)V"⟩
abbrev b_Program_append : ByteArray := prog_5_method_2_code
def y_Program_append : MethodName := ⟨R_Program, "append", "(II)Z"⟩
abbrev b_Program_keepFirst : ByteArray := prog_5_method_3_code
def y_Program_keepFirst : MethodName := ⟨R_Program, "keepFirst", "(I)V"⟩
abbrev b_Program_has : ByteArray := prog_5_method_4_code
def y_Program_has : MethodName := ⟨R_Program, "has", "(I)Z"⟩
abbrev b_Program_opAt : ByteArray := prog_5_method_5_code
def y_Program_opAt : MethodName := ⟨R_Program, "opAt", "(I)I"⟩
abbrev b_Program_nAt : ByteArray := prog_5_method_6_code
def y_Program_nAt : MethodName := ⟨R_Program, "nAt", "(I)I"⟩
abbrev b_Program_isWellFormed : ByteArray := prog_5_method_7_code
def y_Program_isWellFormed : MethodName := ⟨R_Program, "isWellFormed", "(I)Z"⟩
abbrev b_Program_limitOfN : ByteArray := prog_5_method_8_code
def y_Program_limitOfN : MethodName := ⟨R_Program, "limitOfN", "(I)I"⟩
abbrev b_Program_canBeDone : ByteArray := prog_5_method_9_code
def y_Program_canBeDone : MethodName := ⟨R_Program, "canBeDone", "(II)Z"⟩
abbrev b_Ways_init : ByteArray := prog_6_method_1_code
def y_Ways_init : MethodName := ⟨R_Ways, "<init>", "()V"⟩
abbrev b_Ways_follow : ByteArray := prog_6_method_2_code
def y_Ways_follow : MethodName := ⟨R_Ways, "follow", "(LStackJudge$Program;)V"⟩
abbrev b_Ways_goOn : ByteArray := prog_6_method_3_code
def y_Ways_goOn : MethodName := ⟨R_Ways, "goOn", "(LStackJudge$Program;II)V"⟩
abbrev b_Ways_reach : ByteArray := prog_6_method_4_code
def y_Ways_reach : MethodName := ⟨R_Ways, "reach", "(LStackJudge$Program;II)V"⟩
abbrev b_Ways_isReached : ByteArray := prog_6_method_5_code
def y_Ways_isReached : MethodName := ⟨R_Ways, "isReached", "(II)Z"⟩
abbrev b_Ways_firstWrong : ByteArray := prog_6_method_6_code
def y_Ways_firstWrong : MethodName := ⟨R_Ways, "firstWrong", "(LStackJudge$Program;)I"⟩
abbrev b_Ways_isWrong : ByteArray := prog_6_method_7_code
def y_Ways_isWrong : MethodName := ⟨R_Ways, "isWrong", "(LStackJudge$Program;I)Z"⟩
abbrev b_Law_cell : ByteArray := method_2_code
def y_Law_cell : MethodName := ⟨R_Law, "cell", "([II)I"⟩
abbrev b_Integer_bitCount : ByteArray := prog_9_method_49_code
def y_Integer_bitCount : MethodName := ⟨R_Integer, "bitCount", "(I)I"⟩
abbrev b_Arrays_fill : ByteArray := prog_10_method_103_code
def y_Arrays_fill : MethodName := ⟨R_Arrays, "fill", "([II)V"⟩
def F_SJ : u_T := fun k => match k with
  | 0 => (R_SJ, "program", "LStackJudge$Program;", true)
  | 1 => (R_SJ, "ways", "LStackJudge$Ways;", true)
  | _ => (R_SJ, "machine", "LStackJudge$Machine;", true)
def t_SJ : Nat → FieldType := fun k => match k with
  | 0 => .object "StackJudge$Program"
  | 1 => .object "StackJudge$Ways"
  | _ => .object "StackJudge$Machine"
theorem n_SJ : ∀ a, a < 3 → ∀ b, b < 3 → a ≠ b → (F_SJ a).2.1 ≠ (F_SJ b).2.1 := by decide +kernel
theorem t_SJ_ok : ∀ k, k < 3 → parseFieldDescriptor (F_SJ k).2.2.1 = some (t_SJ k) := by decide +kernel
def F_Program : u_T := fun k => match k with
  | 0 => (R_Program, "kind", "I", true)
  | 1 => (R_Program, "size", "I", false)
  | 2 => (R_Program, "argumentCount", "I", true)
  | 3 => (R_Program, "ops", "[I", true)
  | _ => (R_Program, "ns", "[I", true)
def t_Program : Nat → FieldType := fun k => match k with
  | 0 => .int
  | 1 => .int
  | 2 => .int
  | 3 => (.array .int)
  | _ => (.array .int)
theorem n_Program : ∀ a, a < 5 → ∀ b, b < 5 → a ≠ b → (F_Program a).2.1 ≠ (F_Program b).2.1 := by decide +kernel
theorem t_Program_ok : ∀ k, k < 5 → parseFieldDescriptor (F_Program k).2.2.1 = some (t_Program k) := by decide +kernel
def F_Ways : u_T := fun k => match k with
  | 0 => (R_Ways, "reached", "[I", true)
  | 1 => (R_Ways, "waiting", "[I", true)
  | _ => (R_Ways, "waitingCount", "I", false)
def t_Ways : Nat → FieldType := fun k => match k with
  | 0 => (.array .int)
  | 1 => (.array .int)
  | _ => .int
theorem n_Ways : ∀ a, a < 3 → ∀ b, b < 3 → a ≠ b → (F_Ways a).2.1 ≠ (F_Ways b).2.1 := by decide +kernel
theorem t_Ways_ok : ∀ k, k < 3 → parseFieldDescriptor (F_Ways k).2.2.1 = some (t_Ways k) := by decide +kernel
def F_Machine : u_T := fun k => match k with
  | 0 => (R_Machine, "latestResult", "I", false)
  | 1 => (R_Machine, "stepCount", "I", false)
  | 2 => (R_Machine, "pairCount", "I", false)
  | 3 => (R_Machine, "keys", "[I", true)
  | 4 => (R_Machine, "values", "[I", true)
  | 5 => (R_Machine, "arguments", "[I", true)
  | 6 => (R_Machine, "locals", "[I", true)
  | 7 => (R_Machine, "stack", "[I", true)
  | 8 => (R_Machine, "height", "I", false)
  | _ => (R_Machine, "at", "I", false)
def t_Machine : Nat → FieldType := fun k => match k with
  | 0 => .int
  | 1 => .int
  | 2 => .int
  | 3 => (.array .int)
  | 4 => (.array .int)
  | 5 => (.array .int)
  | 6 => (.array .int)
  | 7 => (.array .int)
  | 8 => .int
  | _ => .int
theorem n_Machine : ∀ a, a < 10 → ∀ b, b < 10 → a ≠ b → (F_Machine a).2.1 ≠ (F_Machine b).2.1 := by decide +kernel
theorem t_Machine_ok : ∀ k, k < 10 → parseFieldDescriptor (F_Machine k).2.2.1 = some (t_Machine k) := by decide +kernel
def F_Model : u_T := fun k => match k with
  | 0 => (R_Model, "kind", "I", true)
  | 1 => (R_Model, "op", "[I", true)
  | 2 => (R_Model, "number", "[I", true)
  | 3 => (R_Model, "length", "I", false)
  | 4 => (R_Model, "reached", "[I", true)
  | 5 => (R_Model, "wrong", "[Z", true)
  | 6 => (R_Model, "stack", "[I", true)
  | 7 => (R_Model, "local", "[I", true)
  | 8 => (R_Model, "key", "[I", true)
  | 9 => (R_Model, "value", "[I", true)
  | 10 => (R_Model, "emitted", "I", false)
  | 11 => (R_Model, "steps", "I", false)
  | _ => (R_Model, "result", "I", false)
def t_Model : Nat → FieldType := fun k => match k with
  | 0 => .int
  | 1 => (.array .int)
  | 2 => (.array .int)
  | 3 => .int
  | 4 => (.array .int)
  | 5 => (.array .boolean)
  | 6 => (.array .int)
  | 7 => (.array .int)
  | 8 => (.array .int)
  | 9 => (.array .int)
  | 10 => .int
  | 11 => .int
  | _ => .int
theorem n_Model : ∀ a, a < 13 → ∀ b, b < 13 → a ≠ b → (F_Model a).2.1 ≠ (F_Model b).2.1 := by decide +kernel
theorem t_Model_ok : ∀ k, k < 13 → parseFieldDescriptor (F_Model k).2.2.1 = some (t_Model k) := by decide +kernel
abbrev classes : List vw_C := [(R_SJ, F_SJ, 3), (R_Program, F_Program, 5), (R_Ways, F_Ways, 3), (R_Machine, F_Machine, 10), (R_Model, F_Model, 13)]
theorem k_0 : Cond.selects R_Ways y_Ways_reach y_Ways_reach ∈ gW := gW_mem 0 (by decide +kernel) rfl
theorem k_1 : Cond.selects R_Ways y_Ways_isReached y_Ways_isReached ∈ gW := gW_mem 1 (by decide +kernel) rfl
theorem k_2 : Cond.selects R_Ways y_Ways_goOn y_Ways_goOn ∈ gW := gW_mem 2 (by decide +kernel) rfl
theorem k_3 : Cond.selects R_Program y_Program_limitOfN y_Program_limitOfN ∈ gW := gW_mem 3 (by decide +kernel) rfl
theorem k_4 : Cond.selects R_Ways y_Ways_isWrong y_Ways_isWrong ∈ gW := gW_mem 4 (by decide +kernel) rfl
theorem k_5 : Cond.selects R_Machine y_Machine_begin y_Machine_begin ∈ gW := gW_mem 5 (by decide +kernel) rfl
theorem k_6 : Cond.selects R_Machine y_Machine_doOne y_Machine_doOne ∈ gW := gW_mem 6 (by decide +kernel) rfl
theorem k_7 : Cond.selects R_Machine y_Machine_pop y_Machine_pop ∈ gW := gW_mem 7 (by decide +kernel) rfl
theorem k_8 : Cond.selects R_Machine y_Machine_emit y_Machine_emit ∈ gW := gW_mem 8 (by decide +kernel) rfl
theorem k_9 : Cond.selects R_Machine y_Machine_move y_Machine_move ∈ gW := gW_mem 9 (by decide +kernel) rfl
theorem k_10 : Cond.selects R_Machine y_Machine_push y_Machine_push ∈ gW := gW_mem 10 (by decide +kernel) rfl
theorem k_11 : Cond.selects R_Model y_Model_fill y_Model_fill ∈ gW := gW_mem 11 (by decide +kernel) rfl
theorem k_12 : Cond.selects R_Model y_Model_isBad y_Model_isBad ∈ gW := gW_mem 12 (by decide +kernel) rfl
theorem k_13 : Cond.selects R_Model y_Model_goOn y_Model_goOn ∈ gW := gW_mem 13 (by decide +kernel) rfl
theorem k_14 : Cond.selects R_Model y_Model_needs y_Model_needs ∈ gW := gW_mem 14 (by decide +kernel) rfl
theorem k_15 : Cond.selects R_Model y_Model_reach y_Model_reach ∈ gW := gW_mem 15 (by decide +kernel) rfl
theorem k_16 : Cond.selects R_Model y_Model_done y_Model_done ∈ gW := gW_mem 16 (by decide +kernel) rfl
theorem k_17 : (Jvm.Cond.initialized "StackJudgeLaw") ∈ gW := gW_mem 17 (by decide +kernel) rfl
theorem k_18 : (Jvm.Cond.initialized "StackJudge") ∈ gW := gW_mem 18 (by decide +kernel) rfl
theorem k_19 : (Jvm.Cond.initialized "StackJudge$Program") ∈ gW := gW_mem 19 (by decide +kernel) rfl
theorem k_20 : (Jvm.Cond.initialized "StackJudge$Ways") ∈ gW := gW_mem 20 (by decide +kernel) rfl
theorem k_21 : (Jvm.Cond.initialized "StackJudge$Machine") ∈ gW := gW_mem 21 (by decide +kernel) rfl
theorem k_22 : (Jvm.Cond.initialized "StackJudgeModel") ∈ gW := gW_mem 22 (by decide +kernel) rfl
theorem k_23 : (Jvm.Cond.initialized "java/util/Arrays") ∈ gW := gW_mem 23 (by decide +kernel) rfl
theorem k_24 : (Jvm.Cond.initialized "StackJudge$Op") ∈ gW := gW_mem 24 (by decide +kernel) rfl
theorem k_25 : (Jvm.Cond.initialized "java/lang/Integer") ∈ gW := gW_mem 25 (by decide +kernel) rfl
theorem k_26 : (Jvm.Cond.classLink "StackJudgeLaw" (7 : Nat) "StackJudge") ∈ gW := gW_mem 26 (by decide +kernel) rfl
theorem k_27 : (Jvm.Cond.instantiable "StackJudge" (3 : Nat)) ∈ gW := gW_mem 27 (by decide +kernel) rfl
theorem k_28 : (Jvm.Cond.methodLink "StackJudgeLaw" (15 : Nat) ({ cls := "StackJudge", name := "<init>", desc := "(I)V" } : Jvm.MethodName)) ∈ gW := gW_mem 28 (by decide +kernel) rfl
theorem k_29 : (Jvm.Cond.instanceMethod ({ cls := "StackJudge", name := "<init>", desc := "(I)V" } : Jvm.MethodName)) ∈ gW := gW_mem 29 (by decide +kernel) rfl
theorem k_30 : (Jvm.Cond.code ({ cls := "StackJudge", name := "<init>", desc := "(I)V" } : Jvm.MethodName) prog_1_method_1_code (2 : Nat) (Option.none : Option Jvm.ClassFile.FieldType)) ∈ gW := gW_mem 30 (by decide +kernel) rfl
theorem k_31 : (Jvm.Cond.methodLink "StackJudge" (1 : Nat) ({ cls := "java/lang/Object", name := "<init>", desc := "()V" } : Jvm.MethodName)) ∈ gW := gW_mem 31 (by decide +kernel) rfl
theorem k_32 : (Jvm.Cond.instanceMethod ({ cls := "java/lang/Object", name := "<init>", desc := "()V" } : Jvm.MethodName)) ∈ gW := gW_mem 32 (by decide +kernel) rfl
theorem k_33 : (Jvm.Cond.code ({ cls := "java/lang/Object", name := "<init>", desc := "()V" } : Jvm.MethodName) object_method_1_code (1 : Nat) (Option.none : Option Jvm.ClassFile.FieldType)) ∈ gW := gW_mem 33 (by decide +kernel) rfl
theorem k_34 : (Jvm.Cond.classLink "StackJudge" (7 : Nat) "StackJudge$Program") ∈ gW := gW_mem 34 (by decide +kernel) rfl
theorem k_35 : (Jvm.Cond.instantiable "StackJudge$Program" (5 : Nat)) ∈ gW := gW_mem 35 (by decide +kernel) rfl
theorem k_36 : (Jvm.Cond.methodLink "StackJudge" (9 : Nat) ({ cls := "StackJudge$Program", name := "<init>", desc := "(I)V" } : Jvm.MethodName)) ∈ gW := gW_mem 36 (by decide +kernel) rfl
theorem k_37 : (Jvm.Cond.instanceMethod ({ cls := "StackJudge$Program", name := "<init>", desc := "(I)V" } : Jvm.MethodName)) ∈ gW := gW_mem 37 (by decide +kernel) rfl
theorem k_38 : (Jvm.Cond.code ({ cls := "StackJudge$Program", name := "<init>", desc := "(I)V" } : Jvm.MethodName) prog_5_method_1_code (2 : Nat) (Option.none : Option Jvm.ClassFile.FieldType)) ∈ gW := gW_mem 38 (by decide +kernel) rfl
theorem k_39 : (Jvm.Cond.methodLink "StackJudge$Program" (3 : Nat) ({ cls := "java/lang/Object", name := "<init>", desc := "()V" } : Jvm.MethodName)) ∈ gW := gW_mem 39 (by decide +kernel) rfl
theorem k_40 : (Jvm.Cond.fieldLink "StackJudge$Program" (18 : Nat) "StackJudge$Program" "kind" "I") ∈ gW := gW_mem 40 (by decide +kernel) rfl
theorem k_41 : (Jvm.Cond.fieldLink "StackJudge$Machine" (47 : Nat) "StackJudge$Program" "kind" "I") ∈ gW := gW_mem 41 (by decide +kernel) rfl
theorem k_42 : (Jvm.Cond.fieldLink "StackJudge$Program" (27 : Nat) "StackJudge$Program" "size" "I") ∈ gW := gW_mem 42 (by decide +kernel) rfl
theorem k_43 : (Jvm.Cond.fieldLink "StackJudge" (36 : Nat) "StackJudge$Program" "size" "I") ∈ gW := gW_mem 43 (by decide +kernel) rfl
theorem k_44 : (Jvm.Cond.fieldLink "StackJudge$Ways" (74 : Nat) "StackJudge$Program" "size" "I") ∈ gW := gW_mem 44 (by decide +kernel) rfl
theorem k_45 : (Jvm.Cond.fieldLink "StackJudge$Program" (24 : Nat) "StackJudge$Program" "argumentCount" "I") ∈ gW := gW_mem 45 (by decide +kernel) rfl
theorem k_46 : (Jvm.Cond.fieldLink "StackJudge$Program" (9 : Nat) "StackJudge$Program" "ops" "[I") ∈ gW := gW_mem 46 (by decide +kernel) rfl
theorem k_47 : (Jvm.Cond.fieldLink "StackJudge$Program" (15 : Nat) "StackJudge$Program" "ns" "[I") ∈ gW := gW_mem 47 (by decide +kernel) rfl
theorem k_48 : (Jvm.Cond.laysFinal "StackJudge$Program" "StackJudge$Program" "kind" "I") ∈ gW := gW_mem 48 (by decide +kernel) rfl
theorem k_50 : (Jvm.Cond.lays "StackJudge$Program" "StackJudge$Program" "size" "I") ∈ gW := gW_mem 50 (by decide +kernel) rfl
theorem k_52 : (Jvm.Cond.laysFinal "StackJudge$Program" "StackJudge$Program" "argumentCount" "I") ∈ gW := gW_mem 52 (by decide +kernel) rfl
theorem k_54 : (Jvm.Cond.laysFinal "StackJudge$Program" "StackJudge$Program" "ops" "[I") ∈ gW := gW_mem 54 (by decide +kernel) rfl
theorem k_56 : (Jvm.Cond.laysFinal "StackJudge$Program" "StackJudge$Program" "ns" "[I") ∈ gW := gW_mem 56 (by decide +kernel) rfl
theorem k_59 : (Jvm.Cond.arrayClass Jvm.ClassFile.FieldType.int) ∈ gW := gW_mem 59 (by decide +kernel) rfl
theorem k_60 : (Jvm.Cond.classLink "StackJudge" (18 : Nat) "StackJudge$Ways") ∈ gW := gW_mem 60 (by decide +kernel) rfl
theorem k_61 : (Jvm.Cond.instantiable "StackJudge$Ways" (3 : Nat)) ∈ gW := gW_mem 61 (by decide +kernel) rfl
theorem k_63 : (Jvm.Cond.instanceMethod ({ cls := "StackJudge$Ways", name := "<init>", desc := "()V" } : Jvm.MethodName)) ∈ gW := gW_mem 63 (by decide +kernel) rfl
theorem k_64 : (Jvm.Cond.code ({ cls := "StackJudge$Ways", name := "<init>", desc := "()V" } : Jvm.MethodName) prog_6_method_1_code (1 : Nat) (Option.none : Option Jvm.ClassFile.FieldType)) ∈ gW := gW_mem 64 (by decide +kernel) rfl
theorem k_65 : (Jvm.Cond.methodLink "StackJudge$Ways" (3 : Nat) ({ cls := "java/lang/Object", name := "<init>", desc := "()V" } : Jvm.MethodName)) ∈ gW := gW_mem 65 (by decide +kernel) rfl
theorem k_66 : (Jvm.Cond.fieldLink "StackJudge$Ways" (9 : Nat) "StackJudge$Ways" "reached" "[I") ∈ gW := gW_mem 66 (by decide +kernel) rfl
theorem k_67 : (Jvm.Cond.fieldLink "StackJudge" (55 : Nat) "StackJudge$Ways" "reached" "[I") ∈ gW := gW_mem 67 (by decide +kernel) rfl
theorem k_68 : (Jvm.Cond.fieldLink "StackJudge$Ways" (15 : Nat) "StackJudge$Ways" "waiting" "[I") ∈ gW := gW_mem 68 (by decide +kernel) rfl
theorem k_69 : (Jvm.Cond.fieldLink "StackJudge$Ways" (24 : Nat) "StackJudge$Ways" "waitingCount" "I") ∈ gW := gW_mem 69 (by decide +kernel) rfl
theorem k_70 : (Jvm.Cond.laysFinal "StackJudge$Ways" "StackJudge$Ways" "reached" "[I") ∈ gW := gW_mem 70 (by decide +kernel) rfl
theorem k_72 : (Jvm.Cond.laysFinal "StackJudge$Ways" "StackJudge$Ways" "waiting" "[I") ∈ gW := gW_mem 72 (by decide +kernel) rfl
theorem k_74 : (Jvm.Cond.lays "StackJudge$Ways" "StackJudge$Ways" "waitingCount" "I") ∈ gW := gW_mem 74 (by decide +kernel) rfl
theorem k_77 : (Jvm.Cond.classLink "StackJudge" (25 : Nat) "StackJudge$Machine") ∈ gW := gW_mem 77 (by decide +kernel) rfl
theorem k_78 : (Jvm.Cond.instantiable "StackJudge$Machine" (10 : Nat)) ∈ gW := gW_mem 78 (by decide +kernel) rfl
theorem k_80 : (Jvm.Cond.instanceMethod ({ cls := "StackJudge$Machine", name := "<init>", desc := "()V" } : Jvm.MethodName)) ∈ gW := gW_mem 80 (by decide +kernel) rfl
theorem k_81 : (Jvm.Cond.code ({ cls := "StackJudge$Machine", name := "<init>", desc := "()V" } : Jvm.MethodName) prog_3_method_1_code (1 : Nat) (Option.none : Option Jvm.ClassFile.FieldType)) ∈ gW := gW_mem 81 (by decide +kernel) rfl
theorem k_82 : (Jvm.Cond.methodLink "StackJudge$Machine" (3 : Nat) ({ cls := "java/lang/Object", name := "<init>", desc := "()V" } : Jvm.MethodName)) ∈ gW := gW_mem 82 (by decide +kernel) rfl
theorem k_83 : (Jvm.Cond.fieldLink "StackJudge$Machine" (70 : Nat) "StackJudge$Machine" "latestResult" "I") ∈ gW := gW_mem 83 (by decide +kernel) rfl
theorem k_84 : (Jvm.Cond.fieldLink "StackJudge" (71 : Nat) "StackJudge$Machine" "latestResult" "I") ∈ gW := gW_mem 84 (by decide +kernel) rfl
theorem k_85 : (Jvm.Cond.fieldLink "StackJudge$Machine" (31 : Nat) "StackJudge$Machine" "stepCount" "I") ∈ gW := gW_mem 85 (by decide +kernel) rfl
theorem k_86 : (Jvm.Cond.fieldLink "StackJudge" (74 : Nat) "StackJudge$Machine" "stepCount" "I") ∈ gW := gW_mem 86 (by decide +kernel) rfl
theorem k_87 : (Jvm.Cond.fieldLink "StackJudge$Machine" (54 : Nat) "StackJudge$Machine" "pairCount" "I") ∈ gW := gW_mem 87 (by decide +kernel) rfl
theorem k_88 : (Jvm.Cond.fieldLink "StackJudge" (77 : Nat) "StackJudge$Machine" "pairCount" "I") ∈ gW := gW_mem 88 (by decide +kernel) rfl
theorem k_89 : (Jvm.Cond.fieldLink "StackJudge$Machine" (9 : Nat) "StackJudge$Machine" "keys" "[I") ∈ gW := gW_mem 89 (by decide +kernel) rfl
theorem k_90 : (Jvm.Cond.fieldLink "StackJudge" (82 : Nat) "StackJudge$Machine" "keys" "[I") ∈ gW := gW_mem 90 (by decide +kernel) rfl
theorem k_91 : (Jvm.Cond.fieldLink "StackJudge$Machine" (15 : Nat) "StackJudge$Machine" "values" "[I") ∈ gW := gW_mem 91 (by decide +kernel) rfl
theorem k_92 : (Jvm.Cond.fieldLink "StackJudge" (85 : Nat) "StackJudge$Machine" "values" "[I") ∈ gW := gW_mem 92 (by decide +kernel) rfl
theorem k_93 : (Jvm.Cond.fieldLink "StackJudge$Machine" (18 : Nat) "StackJudge$Machine" "arguments" "[I") ∈ gW := gW_mem 93 (by decide +kernel) rfl
theorem k_94 : (Jvm.Cond.fieldLink "StackJudge$Machine" (21 : Nat) "StackJudge$Machine" "locals" "[I") ∈ gW := gW_mem 94 (by decide +kernel) rfl
theorem k_95 : (Jvm.Cond.fieldLink "StackJudge$Machine" (24 : Nat) "StackJudge$Machine" "stack" "[I") ∈ gW := gW_mem 95 (by decide +kernel) rfl
theorem k_96 : (Jvm.Cond.fieldLink "StackJudge$Machine" (67 : Nat) "StackJudge$Machine" "height" "I") ∈ gW := gW_mem 96 (by decide +kernel) rfl
theorem k_97 : (Jvm.Cond.fieldLink "StackJudge$Machine" (35 : Nat) "StackJudge$Machine" "at" "I") ∈ gW := gW_mem 97 (by decide +kernel) rfl
theorem k_98 : (Jvm.Cond.lays "StackJudge$Machine" "StackJudge$Machine" "latestResult" "I") ∈ gW := gW_mem 98 (by decide +kernel) rfl
theorem k_100 : (Jvm.Cond.lays "StackJudge$Machine" "StackJudge$Machine" "stepCount" "I") ∈ gW := gW_mem 100 (by decide +kernel) rfl
theorem k_102 : (Jvm.Cond.lays "StackJudge$Machine" "StackJudge$Machine" "pairCount" "I") ∈ gW := gW_mem 102 (by decide +kernel) rfl
theorem k_104 : (Jvm.Cond.laysFinal "StackJudge$Machine" "StackJudge$Machine" "keys" "[I") ∈ gW := gW_mem 104 (by decide +kernel) rfl
theorem k_106 : (Jvm.Cond.laysFinal "StackJudge$Machine" "StackJudge$Machine" "values" "[I") ∈ gW := gW_mem 106 (by decide +kernel) rfl
theorem k_108 : (Jvm.Cond.laysFinal "StackJudge$Machine" "StackJudge$Machine" "arguments" "[I") ∈ gW := gW_mem 108 (by decide +kernel) rfl
theorem k_110 : (Jvm.Cond.laysFinal "StackJudge$Machine" "StackJudge$Machine" "locals" "[I") ∈ gW := gW_mem 110 (by decide +kernel) rfl
theorem k_112 : (Jvm.Cond.laysFinal "StackJudge$Machine" "StackJudge$Machine" "stack" "[I") ∈ gW := gW_mem 112 (by decide +kernel) rfl
theorem k_114 : (Jvm.Cond.lays "StackJudge$Machine" "StackJudge$Machine" "height" "I") ∈ gW := gW_mem 114 (by decide +kernel) rfl
theorem k_116 : (Jvm.Cond.lays "StackJudge$Machine" "StackJudge$Machine" "at" "I") ∈ gW := gW_mem 116 (by decide +kernel) rfl
theorem k_119 : (Jvm.Cond.fieldLink "StackJudge" (12 : Nat) "StackJudge" "program" "LStackJudge$Program;") ∈ gW := gW_mem 119 (by decide +kernel) rfl
theorem k_120 : (Jvm.Cond.fieldLink "StackJudge" (21 : Nat) "StackJudge" "ways" "LStackJudge$Ways;") ∈ gW := gW_mem 120 (by decide +kernel) rfl
theorem k_121 : (Jvm.Cond.fieldLink "StackJudge" (28 : Nat) "StackJudge" "machine" "LStackJudge$Machine;") ∈ gW := gW_mem 121 (by decide +kernel) rfl
theorem k_122 : (Jvm.Cond.laysFinal "StackJudge" "StackJudge" "program" "LStackJudge$Program;") ∈ gW := gW_mem 122 (by decide +kernel) rfl
theorem k_124 : (Jvm.Cond.laysFinal "StackJudge" "StackJudge" "ways" "LStackJudge$Ways;") ∈ gW := gW_mem 124 (by decide +kernel) rfl
theorem k_126 : (Jvm.Cond.laysFinal "StackJudge" "StackJudge" "machine" "LStackJudge$Machine;") ∈ gW := gW_mem 126 (by decide +kernel) rfl
theorem k_129 : (Jvm.Cond.methodLink "StackJudgeLaw" (21 : Nat) ({ cls := "StackJudge", name := "code", desc := "(II)I" } : Jvm.MethodName)) ∈ gW := gW_mem 129 (by decide +kernel) rfl
theorem k_130 : (Jvm.Cond.instanceMethod ({ cls := "StackJudge", name := "code", desc := "(II)I" } : Jvm.MethodName)) ∈ gW := gW_mem 130 (by decide +kernel) rfl
theorem k_131 : (Jvm.Cond.selects "StackJudge" ({ cls := "StackJudge", name := "code", desc := "(II)I" } : Jvm.MethodName) ({ cls := "StackJudge", name := "code", desc := "(II)I" } : Jvm.MethodName)) ∈ gW := gW_mem 131 (by decide +kernel) rfl
theorem k_132 : (Jvm.Cond.code ({ cls := "StackJudge", name := "code", desc := "(II)I" } : Jvm.MethodName) prog_1_method_2_code (3 : Nat) (Option.some Jvm.ClassFile.FieldType.int)) ∈ gW := gW_mem 132 (by decide +kernel) rfl
theorem k_133 : (Jvm.Cond.methodLink "StackJudge" (32 : Nat) ({ cls := "StackJudge$Program", name := "append", desc := "(II)Z" } : Jvm.MethodName)) ∈ gW := gW_mem 133 (by decide +kernel) rfl
theorem k_134 : (Jvm.Cond.instanceMethod ({ cls := "StackJudge$Program", name := "append", desc := "(II)Z" } : Jvm.MethodName)) ∈ gW := gW_mem 134 (by decide +kernel) rfl
theorem k_135 : (Jvm.Cond.selects "StackJudge$Program" ({ cls := "StackJudge$Program", name := "append", desc := "(II)Z" } : Jvm.MethodName) ({ cls := "StackJudge$Program", name := "append", desc := "(II)Z" } : Jvm.MethodName)) ∈ gW := gW_mem 135 (by decide +kernel) rfl
theorem k_136 : (Jvm.Cond.code ({ cls := "StackJudge$Program", name := "append", desc := "(II)Z" } : Jvm.MethodName) prog_5_method_2_code (3 : Nat) (Option.some Jvm.ClassFile.FieldType.boolean)) ∈ gW := gW_mem 136 (by decide +kernel) rfl
theorem k_138 : (Jvm.Cond.static ({ cls := "StackJudge", name := "write", desc := "([III)V" } : Jvm.MethodName)) ∈ gW := gW_mem 138 (by decide +kernel) rfl
theorem k_139 : (Jvm.Cond.code ({ cls := "StackJudge", name := "write", desc := "([III)V" } : Jvm.MethodName) prog_1_method_13_code (3 : Nat) (Option.none : Option Jvm.ClassFile.FieldType)) ∈ gW := gW_mem 139 (by decide +kernel) rfl
theorem k_140 : (Jvm.Cond.methodLink "StackJudgeLaw" (26 : Nat) ({ cls := "StackJudge", name := "clear", desc := "()I" } : Jvm.MethodName)) ∈ gW := gW_mem 140 (by decide +kernel) rfl
theorem k_141 : (Jvm.Cond.instanceMethod ({ cls := "StackJudge", name := "clear", desc := "()I" } : Jvm.MethodName)) ∈ gW := gW_mem 141 (by decide +kernel) rfl
theorem k_142 : (Jvm.Cond.selects "StackJudge" ({ cls := "StackJudge", name := "clear", desc := "()I" } : Jvm.MethodName) ({ cls := "StackJudge", name := "clear", desc := "()I" } : Jvm.MethodName)) ∈ gW := gW_mem 142 (by decide +kernel) rfl
theorem k_143 : (Jvm.Cond.code ({ cls := "StackJudge", name := "clear", desc := "()I" } : Jvm.MethodName) prog_1_method_3_code (2 : Nat) (Option.some Jvm.ClassFile.FieldType.int)) ∈ gW := gW_mem 143 (by decide +kernel) rfl
theorem k_144 : (Jvm.Cond.methodLink "StackJudge" (40 : Nat) ({ cls := "StackJudge$Program", name := "keepFirst", desc := "(I)V" } : Jvm.MethodName)) ∈ gW := gW_mem 144 (by decide +kernel) rfl
theorem k_145 : (Jvm.Cond.instanceMethod ({ cls := "StackJudge$Program", name := "keepFirst", desc := "(I)V" } : Jvm.MethodName)) ∈ gW := gW_mem 145 (by decide +kernel) rfl
theorem k_146 : (Jvm.Cond.selects "StackJudge$Program" ({ cls := "StackJudge$Program", name := "keepFirst", desc := "(I)V" } : Jvm.MethodName) ({ cls := "StackJudge$Program", name := "keepFirst", desc := "(I)V" } : Jvm.MethodName)) ∈ gW := gW_mem 146 (by decide +kernel) rfl
theorem k_147 : (Jvm.Cond.code ({ cls := "StackJudge$Program", name := "keepFirst", desc := "(I)V" } : Jvm.MethodName) prog_5_method_3_code (2 : Nat) (Option.none : Option Jvm.ClassFile.FieldType)) ∈ gW := gW_mem 147 (by decide +kernel) rfl
theorem k_148 : (Jvm.Cond.methodLink "StackJudgeLaw" (31 : Nat) ({ cls := "StackJudge", name := "drop", desc := "()I" } : Jvm.MethodName)) ∈ gW := gW_mem 148 (by decide +kernel) rfl
theorem k_149 : (Jvm.Cond.instanceMethod ({ cls := "StackJudge", name := "drop", desc := "()I" } : Jvm.MethodName)) ∈ gW := gW_mem 149 (by decide +kernel) rfl
theorem k_150 : (Jvm.Cond.selects "StackJudge" ({ cls := "StackJudge", name := "drop", desc := "()I" } : Jvm.MethodName) ({ cls := "StackJudge", name := "drop", desc := "()I" } : Jvm.MethodName)) ∈ gW := gW_mem 150 (by decide +kernel) rfl
theorem k_151 : (Jvm.Cond.code ({ cls := "StackJudge", name := "drop", desc := "()I" } : Jvm.MethodName) prog_1_method_4_code (1 : Nat) (Option.some Jvm.ClassFile.FieldType.int)) ∈ gW := gW_mem 151 (by decide +kernel) rfl
theorem k_152 : (Jvm.Cond.methodLink "StackJudgeLaw" (35 : Nat) ({ cls := "StackJudge", name := "check", desc := "()I" } : Jvm.MethodName)) ∈ gW := gW_mem 152 (by decide +kernel) rfl
theorem k_153 : (Jvm.Cond.instanceMethod ({ cls := "StackJudge", name := "check", desc := "()I" } : Jvm.MethodName)) ∈ gW := gW_mem 153 (by decide +kernel) rfl
theorem k_154 : (Jvm.Cond.selects "StackJudge" ({ cls := "StackJudge", name := "check", desc := "()I" } : Jvm.MethodName) ({ cls := "StackJudge", name := "check", desc := "()I" } : Jvm.MethodName)) ∈ gW := gW_mem 154 (by decide +kernel) rfl
theorem k_155 : (Jvm.Cond.code ({ cls := "StackJudge", name := "check", desc := "()I" } : Jvm.MethodName) prog_1_method_5_code (1 : Nat) (Option.some Jvm.ClassFile.FieldType.int)) ∈ gW := gW_mem 155 (by decide +kernel) rfl
theorem k_156 : (Jvm.Cond.methodLink "StackJudge" (43 : Nat) ({ cls := "StackJudge$Ways", name := "follow", desc := "(LStackJudge$Program;)V" } : Jvm.MethodName)) ∈ gW := gW_mem 156 (by decide +kernel) rfl
theorem k_157 : (Jvm.Cond.instanceMethod ({ cls := "StackJudge$Ways", name := "follow", desc := "(LStackJudge$Program;)V" } : Jvm.MethodName)) ∈ gW := gW_mem 157 (by decide +kernel) rfl
theorem k_158 : (Jvm.Cond.selects "StackJudge$Ways" ({ cls := "StackJudge$Ways", name := "follow", desc := "(LStackJudge$Program;)V" } : Jvm.MethodName) ({ cls := "StackJudge$Ways", name := "follow", desc := "(LStackJudge$Program;)V" } : Jvm.MethodName)) ∈ gW := gW_mem 158 (by decide +kernel) rfl
theorem k_159 : (Jvm.Cond.code ({ cls := "StackJudge$Ways", name := "follow", desc := "(LStackJudge$Program;)V" } : Jvm.MethodName) prog_6_method_2_code (4 : Nat) (Option.none : Option Jvm.ClassFile.FieldType)) ∈ gW := gW_mem 159 (by decide +kernel) rfl
theorem k_160 : (Jvm.Cond.methodLink "StackJudge$Ways" (18 : Nat) ({ cls := "java/util/Arrays", name := "fill", desc := "([II)V" } : Jvm.MethodName)) ∈ gW := gW_mem 160 (by decide +kernel) rfl
theorem k_161 : (Jvm.Cond.static ({ cls := "java/util/Arrays", name := "fill", desc := "([II)V" } : Jvm.MethodName)) ∈ gW := gW_mem 161 (by decide +kernel) rfl
theorem k_162 : (Jvm.Cond.code ({ cls := "java/util/Arrays", name := "fill", desc := "([II)V" } : Jvm.MethodName) prog_10_method_103_code (4 : Nat) (Option.none : Option Jvm.ClassFile.FieldType)) ∈ gW := gW_mem 162 (by decide +kernel) rfl
theorem k_163 : (Jvm.Cond.methodLink "StackJudge$Ways" (28 : Nat) ({ cls := "StackJudge$Ways", name := "reach", desc := "(LStackJudge$Program;II)V" } : Jvm.MethodName)) ∈ gW := gW_mem 163 (by decide +kernel) rfl
theorem k_165 : (Jvm.Cond.instanceMethod ({ cls := "StackJudge$Ways", name := "reach", desc := "(LStackJudge$Program;II)V" } : Jvm.MethodName)) ∈ gW := gW_mem 165 (by decide +kernel) rfl
theorem k_166 : (Jvm.Cond.code ({ cls := "StackJudge$Ways", name := "reach", desc := "(LStackJudge$Program;II)V" } : Jvm.MethodName) prog_6_method_4_code (4 : Nat) (Option.none : Option Jvm.ClassFile.FieldType)) ∈ gW := gW_mem 166 (by decide +kernel) rfl
theorem k_167 : (Jvm.Cond.methodLink "StackJudge$Ways" (64 : Nat) ({ cls := "StackJudge$Program", name := "has", desc := "(I)Z" } : Jvm.MethodName)) ∈ gW := gW_mem 167 (by decide +kernel) rfl
theorem k_168 : (Jvm.Cond.instanceMethod ({ cls := "StackJudge$Program", name := "has", desc := "(I)Z" } : Jvm.MethodName)) ∈ gW := gW_mem 168 (by decide +kernel) rfl
theorem k_169 : (Jvm.Cond.selects "StackJudge$Program" ({ cls := "StackJudge$Program", name := "has", desc := "(I)Z" } : Jvm.MethodName) ({ cls := "StackJudge$Program", name := "has", desc := "(I)Z" } : Jvm.MethodName)) ∈ gW := gW_mem 169 (by decide +kernel) rfl
theorem k_170 : (Jvm.Cond.code ({ cls := "StackJudge$Program", name := "has", desc := "(I)Z" } : Jvm.MethodName) prog_5_method_4_code (2 : Nat) (Option.some Jvm.ClassFile.FieldType.boolean)) ∈ gW := gW_mem 170 (by decide +kernel) rfl
theorem k_171 : (Jvm.Cond.methodLink "StackJudge$Ways" (67 : Nat) ({ cls := "StackJudge$Ways", name := "isReached", desc := "(II)Z" } : Jvm.MethodName)) ∈ gW := gW_mem 171 (by decide +kernel) rfl
theorem k_173 : (Jvm.Cond.instanceMethod ({ cls := "StackJudge$Ways", name := "isReached", desc := "(II)Z" } : Jvm.MethodName)) ∈ gW := gW_mem 173 (by decide +kernel) rfl
theorem k_174 : (Jvm.Cond.code ({ cls := "StackJudge$Ways", name := "isReached", desc := "(II)Z" } : Jvm.MethodName) prog_6_method_5_code (3 : Nat) (Option.some Jvm.ClassFile.FieldType.boolean)) ∈ gW := gW_mem 174 (by decide +kernel) rfl
theorem k_176 : (Jvm.Cond.static ({ cls := "StackJudge", name := "read", desc := "([II)I" } : Jvm.MethodName)) ∈ gW := gW_mem 176 (by decide +kernel) rfl
theorem k_177 : (Jvm.Cond.code ({ cls := "StackJudge", name := "read", desc := "([II)I" } : Jvm.MethodName) prog_1_method_12_code (2 : Nat) (Option.some Jvm.ClassFile.FieldType.int)) ∈ gW := gW_mem 177 (by decide +kernel) rfl
theorem k_179 : (Jvm.Cond.methodLink "StackJudge$Ways" (36 : Nat) ({ cls := "StackJudge$Ways", name := "goOn", desc := "(LStackJudge$Program;II)V" } : Jvm.MethodName)) ∈ gW := gW_mem 179 (by decide +kernel) rfl
theorem k_181 : (Jvm.Cond.instanceMethod ({ cls := "StackJudge$Ways", name := "goOn", desc := "(LStackJudge$Program;II)V" } : Jvm.MethodName)) ∈ gW := gW_mem 181 (by decide +kernel) rfl
theorem k_182 : (Jvm.Cond.code ({ cls := "StackJudge$Ways", name := "goOn", desc := "(LStackJudge$Program;II)V" } : Jvm.MethodName) prog_6_method_3_code (6 : Nat) (Option.none : Option Jvm.ClassFile.FieldType)) ∈ gW := gW_mem 182 (by decide +kernel) rfl
theorem k_183 : (Jvm.Cond.methodLink "StackJudge$Ways" (39 : Nat) ({ cls := "StackJudge$Program", name := "canBeDone", desc := "(II)Z" } : Jvm.MethodName)) ∈ gW := gW_mem 183 (by decide +kernel) rfl
theorem k_184 : (Jvm.Cond.instanceMethod ({ cls := "StackJudge$Program", name := "canBeDone", desc := "(II)Z" } : Jvm.MethodName)) ∈ gW := gW_mem 184 (by decide +kernel) rfl
theorem k_185 : (Jvm.Cond.selects "StackJudge$Program" ({ cls := "StackJudge$Program", name := "canBeDone", desc := "(II)Z" } : Jvm.MethodName) ({ cls := "StackJudge$Program", name := "canBeDone", desc := "(II)Z" } : Jvm.MethodName)) ∈ gW := gW_mem 185 (by decide +kernel) rfl
theorem k_186 : (Jvm.Cond.code ({ cls := "StackJudge$Program", name := "canBeDone", desc := "(II)Z" } : Jvm.MethodName) prog_5_method_9_code (4 : Nat) (Option.some Jvm.ClassFile.FieldType.boolean)) ∈ gW := gW_mem 186 (by decide +kernel) rfl
theorem k_187 : (Jvm.Cond.methodLink "StackJudge$Program" (48 : Nat) ({ cls := "StackJudge$Program", name := "opAt", desc := "(I)I" } : Jvm.MethodName)) ∈ gW := gW_mem 187 (by decide +kernel) rfl
theorem k_188 : (Jvm.Cond.instanceMethod ({ cls := "StackJudge$Program", name := "opAt", desc := "(I)I" } : Jvm.MethodName)) ∈ gW := gW_mem 188 (by decide +kernel) rfl
theorem k_189 : (Jvm.Cond.selects "StackJudge$Program" ({ cls := "StackJudge$Program", name := "opAt", desc := "(I)I" } : Jvm.MethodName) ({ cls := "StackJudge$Program", name := "opAt", desc := "(I)I" } : Jvm.MethodName)) ∈ gW := gW_mem 189 (by decide +kernel) rfl
theorem k_190 : (Jvm.Cond.code ({ cls := "StackJudge$Program", name := "opAt", desc := "(I)I" } : Jvm.MethodName) prog_5_method_5_code (2 : Nat) (Option.some Jvm.ClassFile.FieldType.int)) ∈ gW := gW_mem 190 (by decide +kernel) rfl
theorem k_192 : (Jvm.Cond.methodLink "StackJudge$Program" (51 : Nat) ({ cls := "StackJudge$Program", name := "isWellFormed", desc := "(I)Z" } : Jvm.MethodName)) ∈ gW := gW_mem 192 (by decide +kernel) rfl
theorem k_193 : (Jvm.Cond.instanceMethod ({ cls := "StackJudge$Program", name := "isWellFormed", desc := "(I)Z" } : Jvm.MethodName)) ∈ gW := gW_mem 193 (by decide +kernel) rfl
theorem k_194 : (Jvm.Cond.selects "StackJudge$Program" ({ cls := "StackJudge$Program", name := "isWellFormed", desc := "(I)Z" } : Jvm.MethodName) ({ cls := "StackJudge$Program", name := "isWellFormed", desc := "(I)Z" } : Jvm.MethodName)) ∈ gW := gW_mem 194 (by decide +kernel) rfl
theorem k_195 : (Jvm.Cond.code ({ cls := "StackJudge$Program", name := "isWellFormed", desc := "(I)Z" } : Jvm.MethodName) prog_5_method_7_code (5 : Nat) (Option.some Jvm.ClassFile.FieldType.boolean)) ∈ gW := gW_mem 195 (by decide +kernel) rfl
theorem k_196 : (Jvm.Cond.methodLink "StackJudge$Program" (38 : Nat) ({ cls := "StackJudge$Program", name := "limitOfN", desc := "(I)I" } : Jvm.MethodName)) ∈ gW := gW_mem 196 (by decide +kernel) rfl
theorem k_198 : (Jvm.Cond.instanceMethod ({ cls := "StackJudge$Program", name := "limitOfN", desc := "(I)I" } : Jvm.MethodName)) ∈ gW := gW_mem 198 (by decide +kernel) rfl
theorem k_199 : (Jvm.Cond.code ({ cls := "StackJudge$Program", name := "limitOfN", desc := "(I)I" } : Jvm.MethodName) prog_5_method_8_code (2 : Nat) (Option.some Jvm.ClassFile.FieldType.int)) ∈ gW := gW_mem 199 (by decide +kernel) rfl
theorem k_200 : (Jvm.Cond.methodLink "StackJudge$Program" (42 : Nat) ({ cls := "StackJudge$Op", name := "isOf", desc := "(II)Z" } : Jvm.MethodName)) ∈ gW := gW_mem 200 (by decide +kernel) rfl
theorem k_201 : (Jvm.Cond.static ({ cls := "StackJudge$Op", name := "isOf", desc := "(II)Z" } : Jvm.MethodName)) ∈ gW := gW_mem 201 (by decide +kernel) rfl
theorem k_202 : (Jvm.Cond.code ({ cls := "StackJudge$Op", name := "isOf", desc := "(II)Z" } : Jvm.MethodName) prog_4_method_2_code (2 : Nat) (Option.some Jvm.ClassFile.FieldType.boolean)) ∈ gW := gW_mem 202 (by decide +kernel) rfl
theorem k_203 : (Jvm.Cond.methodLink "StackJudge$Program" (55 : Nat) ({ cls := "StackJudge$Op", name := "hasNext", desc := "(I)Z" } : Jvm.MethodName)) ∈ gW := gW_mem 203 (by decide +kernel) rfl
theorem k_204 : (Jvm.Cond.static ({ cls := "StackJudge$Op", name := "hasNext", desc := "(I)Z" } : Jvm.MethodName)) ∈ gW := gW_mem 204 (by decide +kernel) rfl
theorem k_205 : (Jvm.Cond.code ({ cls := "StackJudge$Op", name := "hasNext", desc := "(I)Z" } : Jvm.MethodName) prog_4_method_6_code (1 : Nat) (Option.some Jvm.ClassFile.FieldType.boolean)) ∈ gW := gW_mem 205 (by decide +kernel) rfl
theorem k_206 : (Jvm.Cond.methodLink "StackJudge$Program" (58 : Nat) ({ cls := "StackJudge$Program", name := "has", desc := "(I)Z" } : Jvm.MethodName)) ∈ gW := gW_mem 206 (by decide +kernel) rfl
theorem k_207 : (Jvm.Cond.methodLink "StackJudge$Program" (61 : Nat) ({ cls := "StackJudge$Op", name := "needs", desc := "(II)I" } : Jvm.MethodName)) ∈ gW := gW_mem 207 (by decide +kernel) rfl
theorem k_208 : (Jvm.Cond.static ({ cls := "StackJudge$Op", name := "needs", desc := "(II)I" } : Jvm.MethodName)) ∈ gW := gW_mem 208 (by decide +kernel) rfl
theorem k_209 : (Jvm.Cond.code ({ cls := "StackJudge$Op", name := "needs", desc := "(II)I" } : Jvm.MethodName) prog_4_method_3_code (2 : Nat) (Option.some Jvm.ClassFile.FieldType.int)) ∈ gW := gW_mem 209 (by decide +kernel) rfl
theorem k_210 : (Jvm.Cond.fieldLink "StackJudge$Op" (11 : Nat) "StackJudge$Op" "NEEDS" "[I") ∈ gW := gW_mem 210 (by decide +kernel) rfl
theorem k_213 : (Jvm.Cond.methodLink "StackJudge$Program" (65 : Nat) ({ cls := "StackJudge$Op", name := "growth", desc := "(I)I" } : Jvm.MethodName)) ∈ gW := gW_mem 213 (by decide +kernel) rfl
theorem k_214 : (Jvm.Cond.static ({ cls := "StackJudge$Op", name := "growth", desc := "(I)I" } : Jvm.MethodName)) ∈ gW := gW_mem 214 (by decide +kernel) rfl
theorem k_215 : (Jvm.Cond.code ({ cls := "StackJudge$Op", name := "growth", desc := "(I)I" } : Jvm.MethodName) prog_4_method_4_code (1 : Nat) (Option.some Jvm.ClassFile.FieldType.int)) ∈ gW := gW_mem 215 (by decide +kernel) rfl
theorem k_216 : (Jvm.Cond.fieldLink "StackJudge$Op" (21 : Nat) "StackJudge$Op" "GROWTH" "[I") ∈ gW := gW_mem 216 (by decide +kernel) rfl
theorem k_218 : (Jvm.Cond.methodLink "StackJudge$Ways" (45 : Nat) ({ cls := "StackJudge$Program", name := "opAt", desc := "(I)I" } : Jvm.MethodName)) ∈ gW := gW_mem 218 (by decide +kernel) rfl
theorem k_219 : (Jvm.Cond.methodLink "StackJudge$Ways" (49 : Nat) ({ cls := "StackJudge$Op", name := "growth", desc := "(I)I" } : Jvm.MethodName)) ∈ gW := gW_mem 219 (by decide +kernel) rfl
theorem k_220 : (Jvm.Cond.methodLink "StackJudge$Ways" (54 : Nat) ({ cls := "StackJudge$Op", name := "hasNext", desc := "(I)Z" } : Jvm.MethodName)) ∈ gW := gW_mem 220 (by decide +kernel) rfl
theorem k_221 : (Jvm.Cond.methodLink "StackJudge$Ways" (58 : Nat) ({ cls := "StackJudge$Op", name := "jumps", desc := "(I)Z" } : Jvm.MethodName)) ∈ gW := gW_mem 221 (by decide +kernel) rfl
theorem k_222 : (Jvm.Cond.static ({ cls := "StackJudge$Op", name := "jumps", desc := "(I)Z" } : Jvm.MethodName)) ∈ gW := gW_mem 222 (by decide +kernel) rfl
theorem k_223 : (Jvm.Cond.code ({ cls := "StackJudge$Op", name := "jumps", desc := "(I)Z" } : Jvm.MethodName) prog_4_method_5_code (1 : Nat) (Option.some Jvm.ClassFile.FieldType.boolean)) ∈ gW := gW_mem 223 (by decide +kernel) rfl
theorem k_224 : (Jvm.Cond.methodLink "StackJudge$Ways" (61 : Nat) ({ cls := "StackJudge$Program", name := "nAt", desc := "(I)I" } : Jvm.MethodName)) ∈ gW := gW_mem 224 (by decide +kernel) rfl
theorem k_225 : (Jvm.Cond.instanceMethod ({ cls := "StackJudge$Program", name := "nAt", desc := "(I)I" } : Jvm.MethodName)) ∈ gW := gW_mem 225 (by decide +kernel) rfl
theorem k_226 : (Jvm.Cond.selects "StackJudge$Program" ({ cls := "StackJudge$Program", name := "nAt", desc := "(I)I" } : Jvm.MethodName) ({ cls := "StackJudge$Program", name := "nAt", desc := "(I)I" } : Jvm.MethodName)) ∈ gW := gW_mem 226 (by decide +kernel) rfl
theorem k_227 : (Jvm.Cond.code ({ cls := "StackJudge$Program", name := "nAt", desc := "(I)I" } : Jvm.MethodName) prog_5_method_6_code (2 : Nat) (Option.some Jvm.ClassFile.FieldType.int)) ∈ gW := gW_mem 227 (by decide +kernel) rfl
theorem k_228 : (Jvm.Cond.methodLink "StackJudge" (47 : Nat) ({ cls := "StackJudge$Ways", name := "firstWrong", desc := "(LStackJudge$Program;)I" } : Jvm.MethodName)) ∈ gW := gW_mem 228 (by decide +kernel) rfl
theorem k_229 : (Jvm.Cond.instanceMethod ({ cls := "StackJudge$Ways", name := "firstWrong", desc := "(LStackJudge$Program;)I" } : Jvm.MethodName)) ∈ gW := gW_mem 229 (by decide +kernel) rfl
theorem k_230 : (Jvm.Cond.selects "StackJudge$Ways" ({ cls := "StackJudge$Ways", name := "firstWrong", desc := "(LStackJudge$Program;)I" } : Jvm.MethodName) ({ cls := "StackJudge$Ways", name := "firstWrong", desc := "(LStackJudge$Program;)I" } : Jvm.MethodName)) ∈ gW := gW_mem 230 (by decide +kernel) rfl
theorem k_231 : (Jvm.Cond.code ({ cls := "StackJudge$Ways", name := "firstWrong", desc := "(LStackJudge$Program;)I" } : Jvm.MethodName) prog_6_method_6_code (3 : Nat) (Option.some Jvm.ClassFile.FieldType.int)) ∈ gW := gW_mem 231 (by decide +kernel) rfl
theorem k_232 : (Jvm.Cond.methodLink "StackJudge$Ways" (77 : Nat) ({ cls := "StackJudge$Ways", name := "isWrong", desc := "(LStackJudge$Program;I)Z" } : Jvm.MethodName)) ∈ gW := gW_mem 232 (by decide +kernel) rfl
theorem k_234 : (Jvm.Cond.instanceMethod ({ cls := "StackJudge$Ways", name := "isWrong", desc := "(LStackJudge$Program;I)Z" } : Jvm.MethodName)) ∈ gW := gW_mem 234 (by decide +kernel) rfl
theorem k_235 : (Jvm.Cond.code ({ cls := "StackJudge$Ways", name := "isWrong", desc := "(LStackJudge$Program;I)Z" } : Jvm.MethodName) prog_6_method_7_code (4 : Nat) (Option.some Jvm.ClassFile.FieldType.boolean)) ∈ gW := gW_mem 235 (by decide +kernel) rfl
theorem k_236 : (Jvm.Cond.methodLink "StackJudge$Ways" (81 : Nat) ({ cls := "StackJudge$Program", name := "isWellFormed", desc := "(I)Z" } : Jvm.MethodName)) ∈ gW := gW_mem 236 (by decide +kernel) rfl
theorem k_237 : (Jvm.Cond.methodLink "StackJudge$Ways" (84 : Nat) ({ cls := "java/lang/Integer", name := "bitCount", desc := "(I)I" } : Jvm.MethodName)) ∈ gW := gW_mem 237 (by decide +kernel) rfl
theorem k_238 : (Jvm.Cond.static ({ cls := "java/lang/Integer", name := "bitCount", desc := "(I)I" } : Jvm.MethodName)) ∈ gW := gW_mem 238 (by decide +kernel) rfl
theorem k_239 : (Jvm.Cond.code ({ cls := "java/lang/Integer", name := "bitCount", desc := "(I)I" } : Jvm.MethodName) prog_9_method_49_code (1 : Nat) (Option.some Jvm.ClassFile.FieldType.int)) ∈ gW := gW_mem 239 (by decide +kernel) rfl
theorem k_240 : (Jvm.Cond.constant "java/lang/Integer" (265 : Nat) (1431655765 : Int32)) ∈ gW := gW_mem 240 (by decide +kernel) rfl
theorem k_241 : (Jvm.Cond.constant "java/lang/Integer" (266 : Nat) (858993459 : Int32)) ∈ gW := gW_mem 241 (by decide +kernel) rfl
theorem k_242 : (Jvm.Cond.constant "java/lang/Integer" (267 : Nat) (252645135 : Int32)) ∈ gW := gW_mem 242 (by decide +kernel) rfl
theorem k_243 : (Jvm.Cond.methodLink "StackJudgeLaw" (39 : Nat) ({ cls := "StackJudge", name := "heights", desc := "(I)I" } : Jvm.MethodName)) ∈ gW := gW_mem 243 (by decide +kernel) rfl
theorem k_244 : (Jvm.Cond.instanceMethod ({ cls := "StackJudge", name := "heights", desc := "(I)I" } : Jvm.MethodName)) ∈ gW := gW_mem 244 (by decide +kernel) rfl
theorem k_245 : (Jvm.Cond.selects "StackJudge" ({ cls := "StackJudge", name := "heights", desc := "(I)I" } : Jvm.MethodName) ({ cls := "StackJudge", name := "heights", desc := "(I)I" } : Jvm.MethodName)) ∈ gW := gW_mem 245 (by decide +kernel) rfl
theorem k_246 : (Jvm.Cond.code ({ cls := "StackJudge", name := "heights", desc := "(I)I" } : Jvm.MethodName) prog_1_method_6_code (2 : Nat) (Option.some Jvm.ClassFile.FieldType.int)) ∈ gW := gW_mem 246 (by decide +kernel) rfl
theorem k_247 : (Jvm.Cond.methodLink "StackJudge" (51 : Nat) ({ cls := "StackJudge$Program", name := "has", desc := "(I)Z" } : Jvm.MethodName)) ∈ gW := gW_mem 247 (by decide +kernel) rfl
theorem k_248 : (Jvm.Cond.methodLink "StackJudge" (59 : Nat) ({ cls := "StackJudge", name := "read", desc := "([II)I" } : Jvm.MethodName)) ∈ gW := gW_mem 248 (by decide +kernel) rfl
theorem k_249 : (Jvm.Cond.methodLink "StackJudgeLaw" (44 : Nat) ({ cls := "StackJudge", name := "call", desc := "(III)I" } : Jvm.MethodName)) ∈ gW := gW_mem 249 (by decide +kernel) rfl
theorem k_250 : (Jvm.Cond.instanceMethod ({ cls := "StackJudge", name := "call", desc := "(III)I" } : Jvm.MethodName)) ∈ gW := gW_mem 250 (by decide +kernel) rfl
theorem k_251 : (Jvm.Cond.selects "StackJudge" ({ cls := "StackJudge", name := "call", desc := "(III)I" } : Jvm.MethodName) ({ cls := "StackJudge", name := "call", desc := "(III)I" } : Jvm.MethodName)) ∈ gW := gW_mem 251 (by decide +kernel) rfl
theorem k_252 : (Jvm.Cond.code ({ cls := "StackJudge", name := "call", desc := "(III)I" } : Jvm.MethodName) prog_1_method_7_code (4 : Nat) (Option.some Jvm.ClassFile.FieldType.int)) ∈ gW := gW_mem 252 (by decide +kernel) rfl
theorem k_253 : (Jvm.Cond.methodLink "StackJudge" (63 : Nat) ({ cls := "StackJudge", name := "check", desc := "()I" } : Jvm.MethodName)) ∈ gW := gW_mem 253 (by decide +kernel) rfl
theorem k_254 : (Jvm.Cond.methodLink "StackJudge" (67 : Nat) ({ cls := "StackJudge$Machine", name := "run", desc := "(LStackJudge$Program;III)I" } : Jvm.MethodName)) ∈ gW := gW_mem 254 (by decide +kernel) rfl
theorem k_255 : (Jvm.Cond.instanceMethod ({ cls := "StackJudge$Machine", name := "run", desc := "(LStackJudge$Program;III)I" } : Jvm.MethodName)) ∈ gW := gW_mem 255 (by decide +kernel) rfl
theorem k_256 : (Jvm.Cond.selects "StackJudge$Machine" ({ cls := "StackJudge$Machine", name := "run", desc := "(LStackJudge$Program;III)I" } : Jvm.MethodName) ({ cls := "StackJudge$Machine", name := "run", desc := "(LStackJudge$Program;III)I" } : Jvm.MethodName)) ∈ gW := gW_mem 256 (by decide +kernel) rfl
theorem k_257 : (Jvm.Cond.code ({ cls := "StackJudge$Machine", name := "run", desc := "(LStackJudge$Program;III)I" } : Jvm.MethodName) prog_3_method_2_code (7 : Nat) (Option.some Jvm.ClassFile.FieldType.int)) ∈ gW := gW_mem 257 (by decide +kernel) rfl
theorem k_258 : (Jvm.Cond.methodLink "StackJudge$Machine" (27 : Nat) ({ cls := "StackJudge$Machine", name := "begin", desc := "(III)V" } : Jvm.MethodName)) ∈ gW := gW_mem 258 (by decide +kernel) rfl
theorem k_260 : (Jvm.Cond.instanceMethod ({ cls := "StackJudge$Machine", name := "begin", desc := "(III)V" } : Jvm.MethodName)) ∈ gW := gW_mem 260 (by decide +kernel) rfl
theorem k_261 : (Jvm.Cond.code ({ cls := "StackJudge$Machine", name := "begin", desc := "(III)V" } : Jvm.MethodName) prog_3_method_3_code (4 : Nat) (Option.none : Option Jvm.ClassFile.FieldType)) ∈ gW := gW_mem 261 (by decide +kernel) rfl
theorem k_263 : (Jvm.Cond.methodLink "StackJudge$Machine" (61 : Nat) ({ cls := "java/util/Arrays", name := "fill", desc := "([II)V" } : Jvm.MethodName)) ∈ gW := gW_mem 263 (by decide +kernel) rfl
theorem k_264 : (Jvm.Cond.methodLink "StackJudge$Machine" (38 : Nat) ({ cls := "StackJudge$Program", name := "opAt", desc := "(I)I" } : Jvm.MethodName)) ∈ gW := gW_mem 264 (by decide +kernel) rfl
theorem k_265 : (Jvm.Cond.methodLink "StackJudge$Machine" (44 : Nat) ({ cls := "StackJudge$Program", name := "nAt", desc := "(I)I" } : Jvm.MethodName)) ∈ gW := gW_mem 265 (by decide +kernel) rfl
theorem k_266 : (Jvm.Cond.methodLink "StackJudge$Machine" (50 : Nat) ({ cls := "StackJudge$Machine", name := "doOne", desc := "(III)I" } : Jvm.MethodName)) ∈ gW := gW_mem 266 (by decide +kernel) rfl
theorem k_268 : (Jvm.Cond.instanceMethod ({ cls := "StackJudge$Machine", name := "doOne", desc := "(III)I" } : Jvm.MethodName)) ∈ gW := gW_mem 268 (by decide +kernel) rfl
theorem k_269 : (Jvm.Cond.code ({ cls := "StackJudge$Machine", name := "doOne", desc := "(III)I" } : Jvm.MethodName) prog_3_method_4_code (4 : Nat) (Option.some Jvm.ClassFile.FieldType.int)) ∈ gW := gW_mem 269 (by decide +kernel) rfl
theorem k_270 : (Jvm.Cond.methodLink "StackJudge$Machine" (73 : Nat) ({ cls := "StackJudge$Machine", name := "pop", desc := "()I" } : Jvm.MethodName)) ∈ gW := gW_mem 270 (by decide +kernel) rfl
theorem k_272 : (Jvm.Cond.instanceMethod ({ cls := "StackJudge$Machine", name := "pop", desc := "()I" } : Jvm.MethodName)) ∈ gW := gW_mem 272 (by decide +kernel) rfl
theorem k_273 : (Jvm.Cond.code ({ cls := "StackJudge$Machine", name := "pop", desc := "()I" } : Jvm.MethodName) prog_3_method_9_code (1 : Nat) (Option.some Jvm.ClassFile.FieldType.int)) ∈ gW := gW_mem 273 (by decide +kernel) rfl
theorem k_275 : (Jvm.Cond.methodLink "StackJudge$Machine" (77 : Nat) ({ cls := "StackJudge$Machine", name := "emit", desc := "()I" } : Jvm.MethodName)) ∈ gW := gW_mem 275 (by decide +kernel) rfl
theorem k_277 : (Jvm.Cond.instanceMethod ({ cls := "StackJudge$Machine", name := "emit", desc := "()I" } : Jvm.MethodName)) ∈ gW := gW_mem 277 (by decide +kernel) rfl
theorem k_278 : (Jvm.Cond.code ({ cls := "StackJudge$Machine", name := "emit", desc := "()I" } : Jvm.MethodName) prog_3_method_7_code (1 : Nat) (Option.some Jvm.ClassFile.FieldType.int)) ∈ gW := gW_mem 278 (by decide +kernel) rfl
theorem k_279 : (Jvm.Cond.methodLink "StackJudge$Machine" (80 : Nat) ({ cls := "StackJudge$Machine", name := "move", desc := "(II)V" } : Jvm.MethodName)) ∈ gW := gW_mem 279 (by decide +kernel) rfl
theorem k_281 : (Jvm.Cond.instanceMethod ({ cls := "StackJudge$Machine", name := "move", desc := "(II)V" } : Jvm.MethodName)) ∈ gW := gW_mem 281 (by decide +kernel) rfl
theorem k_282 : (Jvm.Cond.code ({ cls := "StackJudge$Machine", name := "move", desc := "(II)V" } : Jvm.MethodName) prog_3_method_5_code (8 : Nat) (Option.none : Option Jvm.ClassFile.FieldType)) ∈ gW := gW_mem 282 (by decide +kernel) rfl
theorem k_283 : (Jvm.Cond.methodLink "StackJudge$Machine" (84 : Nat) ({ cls := "StackJudge$Machine", name := "push", desc := "(I)V" } : Jvm.MethodName)) ∈ gW := gW_mem 283 (by decide +kernel) rfl
theorem k_285 : (Jvm.Cond.instanceMethod ({ cls := "StackJudge$Machine", name := "push", desc := "(I)V" } : Jvm.MethodName)) ∈ gW := gW_mem 285 (by decide +kernel) rfl
theorem k_286 : (Jvm.Cond.code ({ cls := "StackJudge$Machine", name := "push", desc := "(I)V" } : Jvm.MethodName) prog_3_method_8_code (2 : Nat) (Option.none : Option Jvm.ClassFile.FieldType)) ∈ gW := gW_mem 286 (by decide +kernel) rfl
theorem k_287 : (Jvm.Cond.methodLink "StackJudge$Machine" (92 : Nat) ({ cls := "StackJudge$Machine", name := "combine", desc := "(III)I" } : Jvm.MethodName)) ∈ gW := gW_mem 287 (by decide +kernel) rfl
theorem k_288 : (Jvm.Cond.static ({ cls := "StackJudge$Machine", name := "combine", desc := "(III)I" } : Jvm.MethodName)) ∈ gW := gW_mem 288 (by decide +kernel) rfl
theorem k_289 : (Jvm.Cond.code ({ cls := "StackJudge$Machine", name := "combine", desc := "(III)I" } : Jvm.MethodName) prog_3_method_6_code (3 : Nat) (Option.some Jvm.ClassFile.FieldType.int)) ∈ gW := gW_mem 289 (by decide +kernel) rfl
theorem k_290 : (Jvm.Cond.methodLink "StackJudgeLaw" (49 : Nat) ({ cls := "StackJudge", name := "result", desc := "()I" } : Jvm.MethodName)) ∈ gW := gW_mem 290 (by decide +kernel) rfl
theorem k_291 : (Jvm.Cond.instanceMethod ({ cls := "StackJudge", name := "result", desc := "()I" } : Jvm.MethodName)) ∈ gW := gW_mem 291 (by decide +kernel) rfl
theorem k_292 : (Jvm.Cond.selects "StackJudge" ({ cls := "StackJudge", name := "result", desc := "()I" } : Jvm.MethodName) ({ cls := "StackJudge", name := "result", desc := "()I" } : Jvm.MethodName)) ∈ gW := gW_mem 292 (by decide +kernel) rfl
theorem k_293 : (Jvm.Cond.code ({ cls := "StackJudge", name := "result", desc := "()I" } : Jvm.MethodName) prog_1_method_8_code (1 : Nat) (Option.some Jvm.ClassFile.FieldType.int)) ∈ gW := gW_mem 293 (by decide +kernel) rfl
theorem k_294 : (Jvm.Cond.methodLink "StackJudgeLaw" (53 : Nat) ({ cls := "StackJudge", name := "steps", desc := "()I" } : Jvm.MethodName)) ∈ gW := gW_mem 294 (by decide +kernel) rfl
theorem k_295 : (Jvm.Cond.instanceMethod ({ cls := "StackJudge", name := "steps", desc := "()I" } : Jvm.MethodName)) ∈ gW := gW_mem 295 (by decide +kernel) rfl
theorem k_296 : (Jvm.Cond.selects "StackJudge" ({ cls := "StackJudge", name := "steps", desc := "()I" } : Jvm.MethodName) ({ cls := "StackJudge", name := "steps", desc := "()I" } : Jvm.MethodName)) ∈ gW := gW_mem 296 (by decide +kernel) rfl
theorem k_297 : (Jvm.Cond.code ({ cls := "StackJudge", name := "steps", desc := "()I" } : Jvm.MethodName) prog_1_method_9_code (1 : Nat) (Option.some Jvm.ClassFile.FieldType.int)) ∈ gW := gW_mem 297 (by decide +kernel) rfl
theorem k_298 : (Jvm.Cond.methodLink "StackJudgeLaw" (57 : Nat) ({ cls := "StackJudge", name := "pairs", desc := "()I" } : Jvm.MethodName)) ∈ gW := gW_mem 298 (by decide +kernel) rfl
theorem k_299 : (Jvm.Cond.instanceMethod ({ cls := "StackJudge", name := "pairs", desc := "()I" } : Jvm.MethodName)) ∈ gW := gW_mem 299 (by decide +kernel) rfl
theorem k_300 : (Jvm.Cond.selects "StackJudge" ({ cls := "StackJudge", name := "pairs", desc := "()I" } : Jvm.MethodName) ({ cls := "StackJudge", name := "pairs", desc := "()I" } : Jvm.MethodName)) ∈ gW := gW_mem 300 (by decide +kernel) rfl
theorem k_301 : (Jvm.Cond.code ({ cls := "StackJudge", name := "pairs", desc := "()I" } : Jvm.MethodName) prog_1_method_10_code (1 : Nat) (Option.some Jvm.ClassFile.FieldType.int)) ∈ gW := gW_mem 301 (by decide +kernel) rfl
theorem k_302 : (Jvm.Cond.methodLink "StackJudgeLaw" (61 : Nat) ({ cls := "StackJudge", name := "pair", desc := "(II)J" } : Jvm.MethodName)) ∈ gW := gW_mem 302 (by decide +kernel) rfl
theorem k_303 : (Jvm.Cond.instanceMethod ({ cls := "StackJudge", name := "pair", desc := "(II)J" } : Jvm.MethodName)) ∈ gW := gW_mem 303 (by decide +kernel) rfl
theorem k_304 : (Jvm.Cond.selects "StackJudge" ({ cls := "StackJudge", name := "pair", desc := "(II)J" } : Jvm.MethodName) ({ cls := "StackJudge", name := "pair", desc := "(II)J" } : Jvm.MethodName)) ∈ gW := gW_mem 304 (by decide +kernel) rfl
theorem k_305 : (Jvm.Cond.code ({ cls := "StackJudge", name := "pair", desc := "(II)J" } : Jvm.MethodName) prog_1_method_11_code (3 : Nat) (Option.some Jvm.ClassFile.FieldType.long)) ∈ gW := gW_mem 305 (by decide +kernel) rfl
theorem k_306 : (Jvm.Cond.constantLong "StackJudge" (80 : Nat) (1099511627776 : Int64)) ∈ gW := gW_mem 306 (by decide +kernel) rfl
theorem k_307 : (Jvm.Cond.methodLink "StackJudgeLaw" (9 : Nat) ({ cls := "StackJudgeLaw", name := "cell", desc := "([II)I" } : Jvm.MethodName)) ∈ gW := gW_mem 307 (by decide +kernel) rfl
theorem k_308 : (Jvm.Cond.static ({ cls := "StackJudgeLaw", name := "cell", desc := "([II)I" } : Jvm.MethodName)) ∈ gW := gW_mem 308 (by decide +kernel) rfl
theorem k_309 : (Jvm.Cond.code ({ cls := "StackJudgeLaw", name := "cell", desc := "([II)I" } : Jvm.MethodName) method_2_code (2 : Nat) (Option.some Jvm.ClassFile.FieldType.int)) ∈ gW := gW_mem 309 (by decide +kernel) rfl
theorem k_310 : (Jvm.Cond.classLink "StackJudgeLaw" (18 : Nat) "StackJudgeModel") ∈ gW := gW_mem 310 (by decide +kernel) rfl
theorem k_311 : (Jvm.Cond.instantiable "StackJudgeModel" (13 : Nat)) ∈ gW := gW_mem 311 (by decide +kernel) rfl
theorem k_312 : (Jvm.Cond.methodLink "StackJudgeLaw" (20 : Nat) ({ cls := "StackJudgeModel", name := "<init>", desc := "(I)V" } : Jvm.MethodName)) ∈ gW := gW_mem 312 (by decide +kernel) rfl
theorem k_313 : (Jvm.Cond.instanceMethod ({ cls := "StackJudgeModel", name := "<init>", desc := "(I)V" } : Jvm.MethodName)) ∈ gW := gW_mem 313 (by decide +kernel) rfl
theorem k_314 : (Jvm.Cond.code ({ cls := "StackJudgeModel", name := "<init>", desc := "(I)V" } : Jvm.MethodName) prog_8_method_1_code (2 : Nat) (Option.none : Option Jvm.ClassFile.FieldType)) ∈ gW := gW_mem 314 (by decide +kernel) rfl
theorem k_315 : (Jvm.Cond.methodLink "StackJudgeModel" (1 : Nat) ({ cls := "java/lang/Object", name := "<init>", desc := "()V" } : Jvm.MethodName)) ∈ gW := gW_mem 315 (by decide +kernel) rfl
theorem k_316 : (Jvm.Cond.fieldLink "StackJudgeModel" (35 : Nat) "StackJudgeModel" "kind" "I") ∈ gW := gW_mem 316 (by decide +kernel) rfl
theorem k_317 : (Jvm.Cond.fieldLink "StackJudgeModel" (9 : Nat) "StackJudgeModel" "op" "[I") ∈ gW := gW_mem 317 (by decide +kernel) rfl
theorem k_318 : (Jvm.Cond.fieldLink "StackJudgeModel" (13 : Nat) "StackJudgeModel" "number" "[I") ∈ gW := gW_mem 318 (by decide +kernel) rfl
theorem k_319 : (Jvm.Cond.fieldLink "StackJudgeModel" (39 : Nat) "StackJudgeModel" "length" "I") ∈ gW := gW_mem 319 (by decide +kernel) rfl
theorem k_320 : (Jvm.Cond.fieldLink "StackJudgeModel" (16 : Nat) "StackJudgeModel" "reached" "[I") ∈ gW := gW_mem 320 (by decide +kernel) rfl
theorem k_321 : (Jvm.Cond.fieldLink "StackJudgeModel" (19 : Nat) "StackJudgeModel" "wrong" "[Z") ∈ gW := gW_mem 321 (by decide +kernel) rfl
theorem k_322 : (Jvm.Cond.fieldLink "StackJudgeModel" (23 : Nat) "StackJudgeModel" "stack" "[I") ∈ gW := gW_mem 322 (by decide +kernel) rfl
theorem k_323 : (Jvm.Cond.fieldLink "StackJudgeModel" (26 : Nat) "StackJudgeModel" "local" "[I") ∈ gW := gW_mem 323 (by decide +kernel) rfl
theorem k_324 : (Jvm.Cond.fieldLink "StackJudgeModel" (29 : Nat) "StackJudgeModel" "key" "[I") ∈ gW := gW_mem 324 (by decide +kernel) rfl
theorem k_325 : (Jvm.Cond.fieldLink "StackJudgeModel" (32 : Nat) "StackJudgeModel" "value" "[I") ∈ gW := gW_mem 325 (by decide +kernel) rfl
theorem k_326 : (Jvm.Cond.fieldLink "StackJudgeModel" (66 : Nat) "StackJudgeModel" "emitted" "I") ∈ gW := gW_mem 326 (by decide +kernel) rfl
theorem k_327 : (Jvm.Cond.fieldLink "StackJudgeModel" (63 : Nat) "StackJudgeModel" "steps" "I") ∈ gW := gW_mem 327 (by decide +kernel) rfl
theorem k_328 : (Jvm.Cond.fieldLink "StackJudgeModel" (69 : Nat) "StackJudgeModel" "result" "I") ∈ gW := gW_mem 328 (by decide +kernel) rfl
theorem k_329 : (Jvm.Cond.laysFinal "StackJudgeModel" "StackJudgeModel" "kind" "I") ∈ gW := gW_mem 329 (by decide +kernel) rfl
theorem k_331 : (Jvm.Cond.laysFinal "StackJudgeModel" "StackJudgeModel" "op" "[I") ∈ gW := gW_mem 331 (by decide +kernel) rfl
theorem k_333 : (Jvm.Cond.laysFinal "StackJudgeModel" "StackJudgeModel" "number" "[I") ∈ gW := gW_mem 333 (by decide +kernel) rfl
theorem k_335 : (Jvm.Cond.lays "StackJudgeModel" "StackJudgeModel" "length" "I") ∈ gW := gW_mem 335 (by decide +kernel) rfl
theorem k_337 : (Jvm.Cond.laysFinal "StackJudgeModel" "StackJudgeModel" "reached" "[I") ∈ gW := gW_mem 337 (by decide +kernel) rfl
theorem k_339 : (Jvm.Cond.laysFinal "StackJudgeModel" "StackJudgeModel" "wrong" "[Z") ∈ gW := gW_mem 339 (by decide +kernel) rfl
theorem k_341 : (Jvm.Cond.laysFinal "StackJudgeModel" "StackJudgeModel" "stack" "[I") ∈ gW := gW_mem 341 (by decide +kernel) rfl
theorem k_343 : (Jvm.Cond.laysFinal "StackJudgeModel" "StackJudgeModel" "local" "[I") ∈ gW := gW_mem 343 (by decide +kernel) rfl
theorem k_345 : (Jvm.Cond.laysFinal "StackJudgeModel" "StackJudgeModel" "key" "[I") ∈ gW := gW_mem 345 (by decide +kernel) rfl
theorem k_347 : (Jvm.Cond.laysFinal "StackJudgeModel" "StackJudgeModel" "value" "[I") ∈ gW := gW_mem 347 (by decide +kernel) rfl
theorem k_349 : (Jvm.Cond.lays "StackJudgeModel" "StackJudgeModel" "emitted" "I") ∈ gW := gW_mem 349 (by decide +kernel) rfl
theorem k_351 : (Jvm.Cond.lays "StackJudgeModel" "StackJudgeModel" "steps" "I") ∈ gW := gW_mem 351 (by decide +kernel) rfl
theorem k_353 : (Jvm.Cond.lays "StackJudgeModel" "StackJudgeModel" "result" "I") ∈ gW := gW_mem 353 (by decide +kernel) rfl
theorem k_356 : (Jvm.Cond.arrayClass Jvm.ClassFile.FieldType.boolean) ∈ gW := gW_mem 356 (by decide +kernel) rfl
theorem k_357 : (Jvm.Cond.methodLink "StackJudgeLaw" (25 : Nat) ({ cls := "StackJudgeModel", name := "code", desc := "(II)I" } : Jvm.MethodName)) ∈ gW := gW_mem 357 (by decide +kernel) rfl
theorem k_358 : (Jvm.Cond.instanceMethod ({ cls := "StackJudgeModel", name := "code", desc := "(II)I" } : Jvm.MethodName)) ∈ gW := gW_mem 358 (by decide +kernel) rfl
theorem k_359 : (Jvm.Cond.selects "StackJudgeModel" ({ cls := "StackJudgeModel", name := "code", desc := "(II)I" } : Jvm.MethodName) ({ cls := "StackJudgeModel", name := "code", desc := "(II)I" } : Jvm.MethodName)) ∈ gW := gW_mem 359 (by decide +kernel) rfl
theorem k_360 : (Jvm.Cond.code ({ cls := "StackJudgeModel", name := "code", desc := "(II)I" } : Jvm.MethodName) prog_8_method_2_code (3 : Nat) (Option.some Jvm.ClassFile.FieldType.int)) ∈ gW := gW_mem 360 (by decide +kernel) rfl
theorem k_361 : (Jvm.Cond.methodLink "StackJudgeLaw" (30 : Nat) ({ cls := "StackJudgeModel", name := "clear", desc := "()I" } : Jvm.MethodName)) ∈ gW := gW_mem 361 (by decide +kernel) rfl
theorem k_362 : (Jvm.Cond.instanceMethod ({ cls := "StackJudgeModel", name := "clear", desc := "()I" } : Jvm.MethodName)) ∈ gW := gW_mem 362 (by decide +kernel) rfl
theorem k_363 : (Jvm.Cond.selects "StackJudgeModel" ({ cls := "StackJudgeModel", name := "clear", desc := "()I" } : Jvm.MethodName) ({ cls := "StackJudgeModel", name := "clear", desc := "()I" } : Jvm.MethodName)) ∈ gW := gW_mem 363 (by decide +kernel) rfl
theorem k_364 : (Jvm.Cond.code ({ cls := "StackJudgeModel", name := "clear", desc := "()I" } : Jvm.MethodName) prog_8_method_3_code (2 : Nat) (Option.some Jvm.ClassFile.FieldType.int)) ∈ gW := gW_mem 364 (by decide +kernel) rfl
theorem k_365 : (Jvm.Cond.methodLink "StackJudgeLaw" (34 : Nat) ({ cls := "StackJudgeModel", name := "drop", desc := "()I" } : Jvm.MethodName)) ∈ gW := gW_mem 365 (by decide +kernel) rfl
theorem k_366 : (Jvm.Cond.instanceMethod ({ cls := "StackJudgeModel", name := "drop", desc := "()I" } : Jvm.MethodName)) ∈ gW := gW_mem 366 (by decide +kernel) rfl
theorem k_367 : (Jvm.Cond.selects "StackJudgeModel" ({ cls := "StackJudgeModel", name := "drop", desc := "()I" } : Jvm.MethodName) ({ cls := "StackJudgeModel", name := "drop", desc := "()I" } : Jvm.MethodName)) ∈ gW := gW_mem 367 (by decide +kernel) rfl
theorem k_368 : (Jvm.Cond.code ({ cls := "StackJudgeModel", name := "drop", desc := "()I" } : Jvm.MethodName) prog_8_method_4_code (1 : Nat) (Option.some Jvm.ClassFile.FieldType.int)) ∈ gW := gW_mem 368 (by decide +kernel) rfl
theorem k_369 : (Jvm.Cond.methodLink "StackJudgeLaw" (43 : Nat) ({ cls := "StackJudgeModel", name := "heights", desc := "(I)I" } : Jvm.MethodName)) ∈ gW := gW_mem 369 (by decide +kernel) rfl
theorem k_370 : (Jvm.Cond.instanceMethod ({ cls := "StackJudgeModel", name := "heights", desc := "(I)I" } : Jvm.MethodName)) ∈ gW := gW_mem 370 (by decide +kernel) rfl
theorem k_371 : (Jvm.Cond.selects "StackJudgeModel" ({ cls := "StackJudgeModel", name := "heights", desc := "(I)I" } : Jvm.MethodName) ({ cls := "StackJudgeModel", name := "heights", desc := "(I)I" } : Jvm.MethodName)) ∈ gW := gW_mem 371 (by decide +kernel) rfl
theorem k_372 : (Jvm.Cond.code ({ cls := "StackJudgeModel", name := "heights", desc := "(I)I" } : Jvm.MethodName) prog_8_method_11_code (4 : Nat) (Option.some Jvm.ClassFile.FieldType.int)) ∈ gW := gW_mem 372 (by decide +kernel) rfl
theorem k_373 : (Jvm.Cond.methodLink "StackJudgeModel" (60 : Nat) ({ cls := "StackJudgeModel", name := "fill", desc := "()V" } : Jvm.MethodName)) ∈ gW := gW_mem 373 (by decide +kernel) rfl
theorem k_375 : (Jvm.Cond.instanceMethod ({ cls := "StackJudgeModel", name := "fill", desc := "()V" } : Jvm.MethodName)) ∈ gW := gW_mem 375 (by decide +kernel) rfl
theorem k_376 : (Jvm.Cond.code ({ cls := "StackJudgeModel", name := "fill", desc := "()V" } : Jvm.MethodName) prog_8_method_10_code (3 : Nat) (Option.none : Option Jvm.ClassFile.FieldType)) ∈ gW := gW_mem 376 (by decide +kernel) rfl
theorem k_377 : (Jvm.Cond.methodLink "StackJudgeModel" (42 : Nat) ({ cls := "StackJudgeModel", name := "isBad", desc := "(I)Z" } : Jvm.MethodName)) ∈ gW := gW_mem 377 (by decide +kernel) rfl
theorem k_379 : (Jvm.Cond.instanceMethod ({ cls := "StackJudgeModel", name := "isBad", desc := "(I)Z" } : Jvm.MethodName)) ∈ gW := gW_mem 379 (by decide +kernel) rfl
theorem k_380 : (Jvm.Cond.code ({ cls := "StackJudgeModel", name := "isBad", desc := "(I)Z" } : Jvm.MethodName) prog_8_method_5_code (4 : Nat) (Option.some Jvm.ClassFile.FieldType.boolean)) ∈ gW := gW_mem 380 (by decide +kernel) rfl
theorem k_381 : (Jvm.Cond.methodLink "StackJudgeModel" (57 : Nat) ({ cls := "StackJudgeModel", name := "goOn", desc := "(II)V" } : Jvm.MethodName)) ∈ gW := gW_mem 381 (by decide +kernel) rfl
theorem k_383 : (Jvm.Cond.instanceMethod ({ cls := "StackJudgeModel", name := "goOn", desc := "(II)V" } : Jvm.MethodName)) ∈ gW := gW_mem 383 (by decide +kernel) rfl
theorem k_384 : (Jvm.Cond.code ({ cls := "StackJudgeModel", name := "goOn", desc := "(II)V" } : Jvm.MethodName) prog_8_method_9_code (6 : Nat) (Option.none : Option Jvm.ClassFile.FieldType)) ∈ gW := gW_mem 384 (by decide +kernel) rfl
theorem k_385 : (Jvm.Cond.methodLink "StackJudgeModel" (46 : Nat) ({ cls := "StackJudgeModel", name := "grows", desc := "(I)I" } : Jvm.MethodName)) ∈ gW := gW_mem 385 (by decide +kernel) rfl
theorem k_386 : (Jvm.Cond.static ({ cls := "StackJudgeModel", name := "grows", desc := "(I)I" } : Jvm.MethodName)) ∈ gW := gW_mem 386 (by decide +kernel) rfl
theorem k_387 : (Jvm.Cond.code ({ cls := "StackJudgeModel", name := "grows", desc := "(I)I" } : Jvm.MethodName) prog_8_method_7_code (1 : Nat) (Option.some Jvm.ClassFile.FieldType.int)) ∈ gW := gW_mem 387 (by decide +kernel) rfl
theorem k_388 : (Jvm.Cond.methodLink "StackJudgeModel" (50 : Nat) ({ cls := "StackJudgeModel", name := "needs", desc := "(I)I" } : Jvm.MethodName)) ∈ gW := gW_mem 388 (by decide +kernel) rfl
theorem k_390 : (Jvm.Cond.instanceMethod ({ cls := "StackJudgeModel", name := "needs", desc := "(I)I" } : Jvm.MethodName)) ∈ gW := gW_mem 390 (by decide +kernel) rfl
theorem k_391 : (Jvm.Cond.code ({ cls := "StackJudgeModel", name := "needs", desc := "(I)I" } : Jvm.MethodName) prog_8_method_6_code (2 : Nat) (Option.some Jvm.ClassFile.FieldType.int)) ∈ gW := gW_mem 391 (by decide +kernel) rfl
theorem k_392 : (Jvm.Cond.methodLink "StackJudgeModel" (53 : Nat) ({ cls := "StackJudgeModel", name := "reach", desc := "(II)V" } : Jvm.MethodName)) ∈ gW := gW_mem 392 (by decide +kernel) rfl
theorem k_394 : (Jvm.Cond.instanceMethod ({ cls := "StackJudgeModel", name := "reach", desc := "(II)V" } : Jvm.MethodName)) ∈ gW := gW_mem 394 (by decide +kernel) rfl
theorem k_395 : (Jvm.Cond.code ({ cls := "StackJudgeModel", name := "reach", desc := "(II)V" } : Jvm.MethodName) prog_8_method_8_code (3 : Nat) (Option.none : Option Jvm.ClassFile.FieldType)) ∈ gW := gW_mem 395 (by decide +kernel) rfl
theorem k_396 : (Jvm.Cond.methodLink "StackJudgeLaw" (38 : Nat) ({ cls := "StackJudgeModel", name := "check", desc := "()I" } : Jvm.MethodName)) ∈ gW := gW_mem 396 (by decide +kernel) rfl
theorem k_397 : (Jvm.Cond.instanceMethod ({ cls := "StackJudgeModel", name := "check", desc := "()I" } : Jvm.MethodName)) ∈ gW := gW_mem 397 (by decide +kernel) rfl
theorem k_398 : (Jvm.Cond.selects "StackJudgeModel" ({ cls := "StackJudgeModel", name := "check", desc := "()I" } : Jvm.MethodName) ({ cls := "StackJudgeModel", name := "check", desc := "()I" } : Jvm.MethodName)) ∈ gW := gW_mem 398 (by decide +kernel) rfl
theorem k_399 : (Jvm.Cond.code ({ cls := "StackJudgeModel", name := "check", desc := "()I" } : Jvm.MethodName) prog_8_method_12_code (4 : Nat) (Option.some Jvm.ClassFile.FieldType.int)) ∈ gW := gW_mem 399 (by decide +kernel) rfl
theorem k_400 : (Jvm.Cond.methodLink "StackJudgeLaw" (48 : Nat) ({ cls := "StackJudgeModel", name := "call", desc := "(III)I" } : Jvm.MethodName)) ∈ gW := gW_mem 400 (by decide +kernel) rfl
theorem k_401 : (Jvm.Cond.instanceMethod ({ cls := "StackJudgeModel", name := "call", desc := "(III)I" } : Jvm.MethodName)) ∈ gW := gW_mem 401 (by decide +kernel) rfl
theorem k_402 : (Jvm.Cond.selects "StackJudgeModel" ({ cls := "StackJudgeModel", name := "call", desc := "(III)I" } : Jvm.MethodName) ({ cls := "StackJudgeModel", name := "call", desc := "(III)I" } : Jvm.MethodName)) ∈ gW := gW_mem 402 (by decide +kernel) rfl
theorem k_403 : (Jvm.Cond.code ({ cls := "StackJudgeModel", name := "call", desc := "(III)I" } : Jvm.MethodName) prog_8_method_15_code (5 : Nat) (Option.some Jvm.ClassFile.FieldType.int)) ∈ gW := gW_mem 403 (by decide +kernel) rfl
theorem k_404 : (Jvm.Cond.methodLink "StackJudgeModel" (76 : Nat) ({ cls := "StackJudgeModel", name := "check", desc := "()I" } : Jvm.MethodName)) ∈ gW := gW_mem 404 (by decide +kernel) rfl
theorem k_405 : (Jvm.Cond.methodLink "StackJudgeModel" (80 : Nat) ({ cls := "StackJudgeModel", name := "done", desc := "(III)I" } : Jvm.MethodName)) ∈ gW := gW_mem 405 (by decide +kernel) rfl
theorem k_407 : (Jvm.Cond.instanceMethod ({ cls := "StackJudgeModel", name := "done", desc := "(III)I" } : Jvm.MethodName)) ∈ gW := gW_mem 407 (by decide +kernel) rfl
theorem k_408 : (Jvm.Cond.code ({ cls := "StackJudgeModel", name := "done", desc := "(III)I" } : Jvm.MethodName) prog_8_method_14_code (9 : Nat) (Option.some Jvm.ClassFile.FieldType.int)) ∈ gW := gW_mem 408 (by decide +kernel) rfl
theorem k_409 : (Jvm.Cond.methodLink "StackJudgeModel" (72 : Nat) ({ cls := "StackJudgeModel", name := "reckoned", desc := "(III)I" } : Jvm.MethodName)) ∈ gW := gW_mem 409 (by decide +kernel) rfl
theorem k_410 : (Jvm.Cond.static ({ cls := "StackJudgeModel", name := "reckoned", desc := "(III)I" } : Jvm.MethodName)) ∈ gW := gW_mem 410 (by decide +kernel) rfl
theorem k_411 : (Jvm.Cond.code ({ cls := "StackJudgeModel", name := "reckoned", desc := "(III)I" } : Jvm.MethodName) prog_8_method_13_code (3 : Nat) (Option.some Jvm.ClassFile.FieldType.int)) ∈ gW := gW_mem 411 (by decide +kernel) rfl
theorem k_412 : (Jvm.Cond.methodLink "StackJudgeLaw" (52 : Nat) ({ cls := "StackJudgeModel", name := "result", desc := "()I" } : Jvm.MethodName)) ∈ gW := gW_mem 412 (by decide +kernel) rfl
theorem k_413 : (Jvm.Cond.instanceMethod ({ cls := "StackJudgeModel", name := "result", desc := "()I" } : Jvm.MethodName)) ∈ gW := gW_mem 413 (by decide +kernel) rfl
theorem k_414 : (Jvm.Cond.selects "StackJudgeModel" ({ cls := "StackJudgeModel", name := "result", desc := "()I" } : Jvm.MethodName) ({ cls := "StackJudgeModel", name := "result", desc := "()I" } : Jvm.MethodName)) ∈ gW := gW_mem 414 (by decide +kernel) rfl
theorem k_415 : (Jvm.Cond.code ({ cls := "StackJudgeModel", name := "result", desc := "()I" } : Jvm.MethodName) prog_8_method_16_code (1 : Nat) (Option.some Jvm.ClassFile.FieldType.int)) ∈ gW := gW_mem 415 (by decide +kernel) rfl
theorem k_416 : (Jvm.Cond.methodLink "StackJudgeLaw" (56 : Nat) ({ cls := "StackJudgeModel", name := "steps", desc := "()I" } : Jvm.MethodName)) ∈ gW := gW_mem 416 (by decide +kernel) rfl
theorem k_417 : (Jvm.Cond.instanceMethod ({ cls := "StackJudgeModel", name := "steps", desc := "()I" } : Jvm.MethodName)) ∈ gW := gW_mem 417 (by decide +kernel) rfl
theorem k_418 : (Jvm.Cond.selects "StackJudgeModel" ({ cls := "StackJudgeModel", name := "steps", desc := "()I" } : Jvm.MethodName) ({ cls := "StackJudgeModel", name := "steps", desc := "()I" } : Jvm.MethodName)) ∈ gW := gW_mem 418 (by decide +kernel) rfl
theorem k_419 : (Jvm.Cond.code ({ cls := "StackJudgeModel", name := "steps", desc := "()I" } : Jvm.MethodName) prog_8_method_17_code (1 : Nat) (Option.some Jvm.ClassFile.FieldType.int)) ∈ gW := gW_mem 419 (by decide +kernel) rfl
theorem k_420 : (Jvm.Cond.methodLink "StackJudgeLaw" (60 : Nat) ({ cls := "StackJudgeModel", name := "pairs", desc := "()I" } : Jvm.MethodName)) ∈ gW := gW_mem 420 (by decide +kernel) rfl
theorem k_421 : (Jvm.Cond.instanceMethod ({ cls := "StackJudgeModel", name := "pairs", desc := "()I" } : Jvm.MethodName)) ∈ gW := gW_mem 421 (by decide +kernel) rfl
theorem k_422 : (Jvm.Cond.selects "StackJudgeModel" ({ cls := "StackJudgeModel", name := "pairs", desc := "()I" } : Jvm.MethodName) ({ cls := "StackJudgeModel", name := "pairs", desc := "()I" } : Jvm.MethodName)) ∈ gW := gW_mem 422 (by decide +kernel) rfl
theorem k_423 : (Jvm.Cond.code ({ cls := "StackJudgeModel", name := "pairs", desc := "()I" } : Jvm.MethodName) prog_8_method_18_code (1 : Nat) (Option.some Jvm.ClassFile.FieldType.int)) ∈ gW := gW_mem 423 (by decide +kernel) rfl
theorem k_424 : (Jvm.Cond.methodLink "StackJudgeLaw" (65 : Nat) ({ cls := "StackJudgeModel", name := "pair", desc := "(II)J" } : Jvm.MethodName)) ∈ gW := gW_mem 424 (by decide +kernel) rfl
theorem k_425 : (Jvm.Cond.instanceMethod ({ cls := "StackJudgeModel", name := "pair", desc := "(II)J" } : Jvm.MethodName)) ∈ gW := gW_mem 425 (by decide +kernel) rfl
theorem k_426 : (Jvm.Cond.selects "StackJudgeModel" ({ cls := "StackJudgeModel", name := "pair", desc := "(II)J" } : Jvm.MethodName) ({ cls := "StackJudgeModel", name := "pair", desc := "(II)J" } : Jvm.MethodName)) ∈ gW := gW_mem 426 (by decide +kernel) rfl
theorem k_427 : (Jvm.Cond.code ({ cls := "StackJudgeModel", name := "pair", desc := "(II)J" } : Jvm.MethodName) prog_8_method_19_code (3 : Nat) (Option.some Jvm.ClassFile.FieldType.long)) ∈ gW := gW_mem 427 (by decide +kernel) rfl
theorem k_428 : (Jvm.Cond.constantLong "StackJudgeModel" (83 : Nat) (1099511627776 : Int64)) ∈ gW := gW_mem 428 (by decide +kernel) rfl
theorem in_SJ : ∀ w ∈ u_ws R_SJ F_SJ 3, w ∈ gW := List.forall_mem_cons.mpr ⟨k_122, List.forall_mem_cons.mpr ⟨k_124, List.forall_mem_cons.mpr ⟨k_126, fun _ h => absurd h List.not_mem_nil⟩⟩⟩
theorem in_Program : ∀ w ∈ u_ws R_Program F_Program 5, w ∈ gW := List.forall_mem_cons.mpr ⟨k_48, List.forall_mem_cons.mpr ⟨k_50, List.forall_mem_cons.mpr ⟨k_52, List.forall_mem_cons.mpr ⟨k_54, List.forall_mem_cons.mpr ⟨k_56, fun _ h => absurd h List.not_mem_nil⟩⟩⟩⟩⟩
theorem in_Ways : ∀ w ∈ u_ws R_Ways F_Ways 3, w ∈ gW := List.forall_mem_cons.mpr ⟨k_70, List.forall_mem_cons.mpr ⟨k_72, List.forall_mem_cons.mpr ⟨k_74, fun _ h => absurd h List.not_mem_nil⟩⟩⟩
theorem in_Machine : ∀ w ∈ u_ws R_Machine F_Machine 10, w ∈ gW := List.forall_mem_cons.mpr ⟨k_98, List.forall_mem_cons.mpr ⟨k_100, List.forall_mem_cons.mpr ⟨k_102, List.forall_mem_cons.mpr ⟨k_104, List.forall_mem_cons.mpr ⟨k_106, List.forall_mem_cons.mpr ⟨k_108, List.forall_mem_cons.mpr ⟨k_110, List.forall_mem_cons.mpr ⟨k_112, List.forall_mem_cons.mpr ⟨k_114, List.forall_mem_cons.mpr ⟨k_116, fun _ h => absurd h List.not_mem_nil⟩⟩⟩⟩⟩⟩⟩⟩⟩⟩
theorem in_Model : ∀ w ∈ u_ws R_Model F_Model 13, w ∈ gW := List.forall_mem_cons.mpr ⟨k_329, List.forall_mem_cons.mpr ⟨k_331, List.forall_mem_cons.mpr ⟨k_333, List.forall_mem_cons.mpr ⟨k_335, List.forall_mem_cons.mpr ⟨k_337, List.forall_mem_cons.mpr ⟨k_339, List.forall_mem_cons.mpr ⟨k_341, List.forall_mem_cons.mpr ⟨k_343, List.forall_mem_cons.mpr ⟨k_345, List.forall_mem_cons.mpr ⟨k_347, List.forall_mem_cons.mpr ⟨k_349, List.forall_mem_cons.mpr ⟨k_351, List.forall_mem_cons.mpr ⟨k_353, fun _ h => absurd h List.not_mem_nil⟩⟩⟩⟩⟩⟩⟩⟩⟩⟩⟩⟩⟩
abbrev w_SJ_init : List Cond := .code y_SJ_init b_SJ_init 2 none :: gW
abbrev w_SJ_code : List Cond := .code y_SJ_code b_SJ_code 3 (some .int) :: gW
abbrev w_SJ_clear : List Cond := .code y_SJ_clear b_SJ_clear 2 (some .int) :: gW
abbrev w_SJ_drop : List Cond := .code y_SJ_drop b_SJ_drop 1 (some .int) :: gW
abbrev w_SJ_check : List Cond := .code y_SJ_check b_SJ_check 1 (some .int) :: gW
abbrev w_SJ_heights : List Cond := .code y_SJ_heights b_SJ_heights 2 (some .int) :: gW
abbrev w_SJ_call : List Cond := .code y_SJ_call b_SJ_call 4 (some .int) :: gW
abbrev w_SJ_result : List Cond := .code y_SJ_result b_SJ_result 1 (some .int) :: gW
abbrev w_SJ_steps : List Cond := .code y_SJ_steps b_SJ_steps 1 (some .int) :: gW
abbrev w_SJ_pairs : List Cond := .code y_SJ_pairs b_SJ_pairs 1 (some .int) :: gW
abbrev w_SJ_pair : List Cond := .code y_SJ_pair b_SJ_pair 3 (some .long) :: gW
abbrev w_SJ_read : List Cond := .code y_SJ_read b_SJ_read 2 (some .int) :: gW
abbrev w_SJ_write : List Cond := .code y_SJ_write b_SJ_write 3 none :: gW
abbrev w_Model_init : List Cond := .code y_Model_init b_Model_init 2 none :: gW
abbrev w_Model_code : List Cond := .code y_Model_code b_Model_code 3 (some .int) :: gW
abbrev w_Model_clear : List Cond := .code y_Model_clear b_Model_clear 2 (some .int) :: gW
abbrev w_Model_drop : List Cond := .code y_Model_drop b_Model_drop 1 (some .int) :: gW
abbrev w_Model_isBad : List Cond := .code y_Model_isBad b_Model_isBad 4 (some .boolean) :: gW
abbrev w_Model_needs : List Cond := .code y_Model_needs b_Model_needs 2 (some .int) :: gW
abbrev w_Model_grows : List Cond := .code y_Model_grows b_Model_grows 1 (some .int) :: gW
abbrev w_Model_reach : List Cond := .code y_Model_reach b_Model_reach 3 none :: gW
abbrev w_Model_goOn : List Cond := .code y_Model_goOn b_Model_goOn 6 none :: gW
abbrev w_Model_fill : List Cond := .code y_Model_fill b_Model_fill 3 none :: gW
abbrev w_Model_heights : List Cond := .code y_Model_heights b_Model_heights 4 (some .int) :: gW
abbrev w_Model_check : List Cond := .code y_Model_check b_Model_check 4 (some .int) :: gW
abbrev w_Model_reckoned : List Cond := .code y_Model_reckoned b_Model_reckoned 3 (some .int) :: gW
abbrev w_Model_done : List Cond := .code y_Model_done b_Model_done 9 (some .int) :: gW
abbrev w_Model_call : List Cond := .code y_Model_call b_Model_call 5 (some .int) :: gW
abbrev w_Model_result : List Cond := .code y_Model_result b_Model_result 1 (some .int) :: gW
abbrev w_Model_steps : List Cond := .code y_Model_steps b_Model_steps 1 (some .int) :: gW
abbrev w_Model_pairs : List Cond := .code y_Model_pairs b_Model_pairs 1 (some .int) :: gW
abbrev w_Model_pair : List Cond := .code y_Model_pair b_Model_pair 3 (some .long) :: gW
abbrev w_Machine_init : List Cond := .code y_Machine_init b_Machine_init 1 none :: gW
abbrev w_Machine_run : List Cond := .code y_Machine_run b_Machine_run 7 (some .int) :: gW
abbrev w_Machine_begin : List Cond := .code y_Machine_begin b_Machine_begin 4 none :: gW
abbrev w_Machine_doOne : List Cond := .code y_Machine_doOne b_Machine_doOne 4 (some .int) :: gW
abbrev w_Machine_move : List Cond := .code y_Machine_move b_Machine_move 8 none :: gW
abbrev w_Machine_combine : List Cond := .code y_Machine_combine b_Machine_combine 3 (some .int) :: gW
abbrev w_Machine_emit : List Cond := .code y_Machine_emit b_Machine_emit 1 (some .int) :: gW
abbrev w_Machine_push : List Cond := .code y_Machine_push b_Machine_push 2 none :: gW
abbrev w_Machine_pop : List Cond := .code y_Machine_pop b_Machine_pop 1 (some .int) :: gW
abbrev w_Op_isOf : List Cond := .code y_Op_isOf b_Op_isOf 2 (some .boolean) :: gW
abbrev w_Op_needs : List Cond := .code y_Op_needs b_Op_needs 2 (some .int) :: gW
abbrev w_Op_growth : List Cond := .code y_Op_growth b_Op_growth 1 (some .int) :: gW
abbrev w_Op_jumps : List Cond := .code y_Op_jumps b_Op_jumps 1 (some .boolean) :: gW
abbrev w_Op_hasNext : List Cond := .code y_Op_hasNext b_Op_hasNext 1 (some .boolean) :: gW
abbrev w_Program_init : List Cond := .code y_Program_init b_Program_init 2 none :: gW
abbrev w_Program_append : List Cond := .code y_Program_append b_Program_append 3 (some .boolean) :: gW
abbrev w_Program_keepFirst : List Cond := .code y_Program_keepFirst b_Program_keepFirst 2 none :: gW
abbrev w_Program_has : List Cond := .code y_Program_has b_Program_has 2 (some .boolean) :: gW
abbrev w_Program_opAt : List Cond := .code y_Program_opAt b_Program_opAt 2 (some .int) :: gW
abbrev w_Program_nAt : List Cond := .code y_Program_nAt b_Program_nAt 2 (some .int) :: gW
abbrev w_Program_isWellFormed : List Cond := .code y_Program_isWellFormed b_Program_isWellFormed 5 (some .boolean) :: gW
abbrev w_Program_limitOfN : List Cond := .code y_Program_limitOfN b_Program_limitOfN 2 (some .int) :: gW
abbrev w_Program_canBeDone : List Cond := .code y_Program_canBeDone b_Program_canBeDone 4 (some .boolean) :: gW
abbrev w_Ways_init : List Cond := .code y_Ways_init b_Ways_init 1 none :: gW
abbrev w_Ways_follow : List Cond := .code y_Ways_follow b_Ways_follow 4 none :: gW
abbrev w_Ways_goOn : List Cond := .code y_Ways_goOn b_Ways_goOn 6 none :: gW
abbrev w_Ways_reach : List Cond := .code y_Ways_reach b_Ways_reach 4 none :: gW
abbrev w_Ways_isReached : List Cond := .code y_Ways_isReached b_Ways_isReached 3 (some .boolean) :: gW
abbrev w_Ways_firstWrong : List Cond := .code y_Ways_firstWrong b_Ways_firstWrong 3 (some .int) :: gW
abbrev w_Ways_isWrong : List Cond := .code y_Ways_isWrong b_Ways_isWrong 4 (some .boolean) :: gW
abbrev w_Law_cell : List Cond := .code y_Law_cell b_Law_cell 2 (some .int) :: gW
abbrev w_Integer_bitCount : List Cond := .code y_Integer_bitCount b_Integer_bitCount 1 (some .int) :: gW
abbrev w_Arrays_fill : List Cond := .code y_Arrays_fill b_Arrays_fill 4 none :: gW
def nW : List Cond := [(Jvm.Cond.methodLinkNest "StackJudge" (20 : Nat) ({ cls := "StackJudge$Ways", name := "<init>", desc := "()V" } : Jvm.MethodName) "StackJudge"), (Jvm.Cond.methodLinkNest "StackJudge" (27 : Nat) ({ cls := "StackJudge$Machine", name := "<init>", desc := "()V" } : Jvm.MethodName) "StackJudge"), (Jvm.Cond.methodLinkNest "StackJudge$Program" (30 : Nat) ({ cls := "StackJudge", name := "write", desc := "([III)V" } : Jvm.MethodName) "StackJudge"), (Jvm.Cond.methodLinkNest "StackJudge$Ways" (32 : Nat) ({ cls := "StackJudge", name := "read", desc := "([II)I" } : Jvm.MethodName) "StackJudge"), (Jvm.Cond.methodLinkNest "StackJudge$Ways" (70 : Nat) ({ cls := "StackJudge", name := "write", desc := "([III)V" } : Jvm.MethodName) "StackJudge"), (Jvm.Cond.methodLinkNest "StackJudge$Program" (34 : Nat) ({ cls := "StackJudge", name := "read", desc := "([II)I" } : Jvm.MethodName) "StackJudge"), (Jvm.Cond.methodLinkNest "StackJudge$Op" (15 : Nat) ({ cls := "StackJudge", name := "read", desc := "([II)I" } : Jvm.MethodName) "StackJudge"), (Jvm.Cond.methodLinkNest "StackJudge$Machine" (57 : Nat) ({ cls := "StackJudge", name := "write", desc := "([III)V" } : Jvm.MethodName) "StackJudge"), (Jvm.Cond.methodLinkNest "StackJudge$Machine" (88 : Nat) ({ cls := "StackJudge", name := "read", desc := "([II)I" } : Jvm.MethodName) "StackJudge")]
theorem nm_0 : (Jvm.Cond.methodLinkNest "StackJudge" (20 : Nat) ({ cls := "StackJudge$Ways", name := "<init>", desc := "()V" } : Jvm.MethodName) "StackJudge") ∈ nW := List.mem_of_getElem? (i := 0) rfl
theorem nm_1 : (Jvm.Cond.methodLinkNest "StackJudge" (27 : Nat) ({ cls := "StackJudge$Machine", name := "<init>", desc := "()V" } : Jvm.MethodName) "StackJudge") ∈ nW := List.mem_of_getElem? (i := 1) rfl
theorem nm_2 : (Jvm.Cond.methodLinkNest "StackJudge$Program" (30 : Nat) ({ cls := "StackJudge", name := "write", desc := "([III)V" } : Jvm.MethodName) "StackJudge") ∈ nW := List.mem_of_getElem? (i := 2) rfl
theorem nm_3 : (Jvm.Cond.methodLinkNest "StackJudge$Ways" (32 : Nat) ({ cls := "StackJudge", name := "read", desc := "([II)I" } : Jvm.MethodName) "StackJudge") ∈ nW := List.mem_of_getElem? (i := 3) rfl
theorem nm_4 : (Jvm.Cond.methodLinkNest "StackJudge$Ways" (70 : Nat) ({ cls := "StackJudge", name := "write", desc := "([III)V" } : Jvm.MethodName) "StackJudge") ∈ nW := List.mem_of_getElem? (i := 4) rfl
theorem nm_5 : (Jvm.Cond.methodLinkNest "StackJudge$Program" (34 : Nat) ({ cls := "StackJudge", name := "read", desc := "([II)I" } : Jvm.MethodName) "StackJudge") ∈ nW := List.mem_of_getElem? (i := 5) rfl
theorem nm_6 : (Jvm.Cond.methodLinkNest "StackJudge$Op" (15 : Nat) ({ cls := "StackJudge", name := "read", desc := "([II)I" } : Jvm.MethodName) "StackJudge") ∈ nW := List.mem_of_getElem? (i := 6) rfl
theorem nm_7 : (Jvm.Cond.methodLinkNest "StackJudge$Machine" (57 : Nat) ({ cls := "StackJudge", name := "write", desc := "([III)V" } : Jvm.MethodName) "StackJudge") ∈ nW := List.mem_of_getElem? (i := 7) rfl
theorem nm_8 : (Jvm.Cond.methodLinkNest "StackJudge$Machine" (88 : Nat) ({ cls := "StackJudge", name := "read", desc := "([II)I" } : Jvm.MethodName) "StackJudge") ∈ nW := List.mem_of_getElem? (i := 8) rfl
theorem nW_on : ∀ w ∈ nW, w.onTables = true := List.forall_mem_cons.mpr ⟨rfl, List.forall_mem_cons.mpr ⟨rfl, List.forall_mem_cons.mpr ⟨rfl, List.forall_mem_cons.mpr ⟨rfl, List.forall_mem_cons.mpr ⟨rfl, List.forall_mem_cons.mpr ⟨rfl, List.forall_mem_cons.mpr ⟨rfl, List.forall_mem_cons.mpr ⟨rfl, List.forall_mem_cons.mpr ⟨rfl, fun _ h => absurd h List.not_mem_nil⟩⟩⟩⟩⟩⟩⟩⟩⟩
def NWs (U : State) : Prop := ∀ w ∈ nW, va_Nw w U
theorem NWs.warm {s U : State} (hW : s.WarmedH U.vm) (h : NWs s) : NWs U := List.forall_mem_cons.mpr ⟨va_Nw.warmM hW (h _ nm_0), List.forall_mem_cons.mpr ⟨va_Nw.warmM hW (h _ nm_1), List.forall_mem_cons.mpr ⟨va_Nw.warmM hW (h _ nm_2), List.forall_mem_cons.mpr ⟨va_Nw.warmM hW (h _ nm_3), List.forall_mem_cons.mpr ⟨va_Nw.warmM hW (h _ nm_4), List.forall_mem_cons.mpr ⟨va_Nw.warmM hW (h _ nm_5), List.forall_mem_cons.mpr ⟨va_Nw.warmM hW (h _ nm_6), List.forall_mem_cons.mpr ⟨va_Nw.warmM hW (h _ nm_7), List.forall_mem_cons.mpr ⟨va_Nw.warmM hW (h _ nm_8), fun _ h => absurd h List.not_mem_nil⟩⟩⟩⟩⟩⟩⟩⟩⟩
