/-! what holds where the law begins: classes, array classes, nest links, the two tables -/
theorem arrT {s : State} {args : Array Value} {ty : FieldType} (h : (Cond.arrayClass ty).before args s = true) (hty : ty = .int ∨ ty = .boolean) : ∃ cA : ClassId, ArrOfT s cA ty ∧ va_RA s cA ty := by
  obtain ⟨cA, kA, comp, h1, h2, h3⟩ := Cond.arrayClass_spec h
  refine ⟨cA, fun n z => ⟨fun k h => (by cases h), kA, h2, comp, h3⟩, ?_⟩
  rcases hty with rfl | rfl <;> exact h1
theorem tab_elems {args : Array Value} {s : State} {tm : Term} {f : Nat → Int32} (l : List Int32) (hl : l.length = 19) (hf : ∀ j, j < 19 → f j = l.getD j 0) (h : ∀ j, j < 19 → (Cond.eq (Term.elem tm (.int (Int32.ofNat j))) (.int (l.getD j 0))).before args s = true) : ∀ j : Nat, j < 19 → (Term.elem tm (.int (Int32.ofNat j))).eval args s none [] s = some (.int (f j)) := fun j hj => by
  rw [hf j hj]
  exact va_eqt (h j hj)
def lN19 : List Int32 := [0, 0, 0, 1, 1, 2, 1, 2, 2, 2, 2, 2, 2, 2, 0, 1, 2, 1, 0]
def lG19 : List Int32 := [1, 1, 1, -1, 1, 0, -1, -1, -1, -1, -1, -1, -1, -1, 0, -1, -2, 0, 0]
theorem all19 {P : Nat → Prop} (h : ∀ j, j < 19 → P j) : ∀ j, j < 19 → P j := h
theorem nt_0 : (Jvm.Cond.methodLinkNest "StackJudge" (20 : Nat) ({ cls := "StackJudge$Ways", name := "<init>", desc := "()V" } : Jvm.MethodName) "StackJudge") ∈ lw_tbl := List.mem_of_getElem? (i := 62) (by decide +kernel)
theorem nt_1 : (Jvm.Cond.methodLinkNest "StackJudge" (27 : Nat) ({ cls := "StackJudge$Machine", name := "<init>", desc := "()V" } : Jvm.MethodName) "StackJudge") ∈ lw_tbl := List.mem_of_getElem? (i := 79) (by decide +kernel)
theorem nt_2 : (Jvm.Cond.methodLinkNest "StackJudge$Program" (30 : Nat) ({ cls := "StackJudge", name := "write", desc := "([III)V" } : Jvm.MethodName) "StackJudge") ∈ lw_tbl := List.mem_of_getElem? (i := 137) (by decide +kernel)
theorem nt_3 : (Jvm.Cond.methodLinkNest "StackJudge$Ways" (32 : Nat) ({ cls := "StackJudge", name := "read", desc := "([II)I" } : Jvm.MethodName) "StackJudge") ∈ lw_tbl := List.mem_of_getElem? (i := 175) (by decide +kernel)
theorem nt_4 : (Jvm.Cond.methodLinkNest "StackJudge$Ways" (70 : Nat) ({ cls := "StackJudge", name := "write", desc := "([III)V" } : Jvm.MethodName) "StackJudge") ∈ lw_tbl := List.mem_of_getElem? (i := 178) (by decide +kernel)
theorem nt_5 : (Jvm.Cond.methodLinkNest "StackJudge$Program" (34 : Nat) ({ cls := "StackJudge", name := "read", desc := "([II)I" } : Jvm.MethodName) "StackJudge") ∈ lw_tbl := List.mem_of_getElem? (i := 191) (by decide +kernel)
theorem nt_6 : (Jvm.Cond.methodLinkNest "StackJudge$Op" (15 : Nat) ({ cls := "StackJudge", name := "read", desc := "([II)I" } : Jvm.MethodName) "StackJudge") ∈ lw_tbl := List.mem_of_getElem? (i := 212) (by decide +kernel)
theorem nt_7 : (Jvm.Cond.methodLinkNest "StackJudge$Machine" (57 : Nat) ({ cls := "StackJudge", name := "write", desc := "([III)V" } : Jvm.MethodName) "StackJudge") ∈ lw_tbl := List.mem_of_getElem? (i := 262) (by decide +kernel)
theorem nt_8 : (Jvm.Cond.methodLinkNest "StackJudge$Machine" (88 : Nat) ({ cls := "StackJudge", name := "read", desc := "([II)I" } : Jvm.MethodName) "StackJudge") ∈ lw_tbl := List.mem_of_getElem? (i := 274) (by decide +kernel)
theorem ls_NEEDS : (Jvm.Cond.laysStatic "StackJudge$Op" "NEEDS" "[I") ∈ lw_tbl := List.mem_of_getElem? (i := 211) (by decide +kernel)
theorem ls_GROWTH : (Jvm.Cond.laysStatic "StackJudge$Op" "GROWTH" "[I") ∈ lw_tbl := List.mem_of_getElem? (i := 217) (by decide +kernel)
theorem el_NEEDS_0 {args : Array Value} {s : State} (h : ∀ c ∈ flatC (Jvm.Cond.and given_1 narrow_1), c.before args s = true) : (Cond.eq (Term.elem (Jvm.Term.static "StackJudge$Op" "NEEDS" "[I") (.int (Int32.ofNat 0))) (.int 0)).before args s = true := h _ (by decide +kernel)
theorem el_NEEDS_1 {args : Array Value} {s : State} (h : ∀ c ∈ flatC (Jvm.Cond.and given_1 narrow_1), c.before args s = true) : (Cond.eq (Term.elem (Jvm.Term.static "StackJudge$Op" "NEEDS" "[I") (.int (Int32.ofNat 1))) (.int 0)).before args s = true := h _ (by decide +kernel)
theorem el_NEEDS_2 {args : Array Value} {s : State} (h : ∀ c ∈ flatC (Jvm.Cond.and given_1 narrow_1), c.before args s = true) : (Cond.eq (Term.elem (Jvm.Term.static "StackJudge$Op" "NEEDS" "[I") (.int (Int32.ofNat 2))) (.int 0)).before args s = true := h _ (by decide +kernel)
theorem el_NEEDS_3 {args : Array Value} {s : State} (h : ∀ c ∈ flatC (Jvm.Cond.and given_1 narrow_1), c.before args s = true) : (Cond.eq (Term.elem (Jvm.Term.static "StackJudge$Op" "NEEDS" "[I") (.int (Int32.ofNat 3))) (.int 1)).before args s = true := h _ (by decide +kernel)
theorem el_NEEDS_4 {args : Array Value} {s : State} (h : ∀ c ∈ flatC (Jvm.Cond.and given_1 narrow_1), c.before args s = true) : (Cond.eq (Term.elem (Jvm.Term.static "StackJudge$Op" "NEEDS" "[I") (.int (Int32.ofNat 4))) (.int 1)).before args s = true := h _ (by decide +kernel)
theorem el_NEEDS_5 {args : Array Value} {s : State} (h : ∀ c ∈ flatC (Jvm.Cond.and given_1 narrow_1), c.before args s = true) : (Cond.eq (Term.elem (Jvm.Term.static "StackJudge$Op" "NEEDS" "[I") (.int (Int32.ofNat 5))) (.int 2)).before args s = true := h _ (by decide +kernel)
theorem el_NEEDS_6 {args : Array Value} {s : State} (h : ∀ c ∈ flatC (Jvm.Cond.and given_1 narrow_1), c.before args s = true) : (Cond.eq (Term.elem (Jvm.Term.static "StackJudge$Op" "NEEDS" "[I") (.int (Int32.ofNat 6))) (.int 1)).before args s = true := h _ (by decide +kernel)
theorem el_NEEDS_7 {args : Array Value} {s : State} (h : ∀ c ∈ flatC (Jvm.Cond.and given_1 narrow_1), c.before args s = true) : (Cond.eq (Term.elem (Jvm.Term.static "StackJudge$Op" "NEEDS" "[I") (.int (Int32.ofNat 7))) (.int 2)).before args s = true := h _ (by decide +kernel)
theorem el_NEEDS_8 {args : Array Value} {s : State} (h : ∀ c ∈ flatC (Jvm.Cond.and given_1 narrow_1), c.before args s = true) : (Cond.eq (Term.elem (Jvm.Term.static "StackJudge$Op" "NEEDS" "[I") (.int (Int32.ofNat 8))) (.int 2)).before args s = true := h _ (by decide +kernel)
theorem el_NEEDS_9 {args : Array Value} {s : State} (h : ∀ c ∈ flatC (Jvm.Cond.and given_1 narrow_1), c.before args s = true) : (Cond.eq (Term.elem (Jvm.Term.static "StackJudge$Op" "NEEDS" "[I") (.int (Int32.ofNat 9))) (.int 2)).before args s = true := h _ (by decide +kernel)
theorem el_NEEDS_10 {args : Array Value} {s : State} (h : ∀ c ∈ flatC (Jvm.Cond.and given_1 narrow_1), c.before args s = true) : (Cond.eq (Term.elem (Jvm.Term.static "StackJudge$Op" "NEEDS" "[I") (.int (Int32.ofNat 10))) (.int 2)).before args s = true := h _ (by decide +kernel)
theorem el_NEEDS_11 {args : Array Value} {s : State} (h : ∀ c ∈ flatC (Jvm.Cond.and given_1 narrow_1), c.before args s = true) : (Cond.eq (Term.elem (Jvm.Term.static "StackJudge$Op" "NEEDS" "[I") (.int (Int32.ofNat 11))) (.int 2)).before args s = true := h _ (by decide +kernel)
theorem el_NEEDS_12 {args : Array Value} {s : State} (h : ∀ c ∈ flatC (Jvm.Cond.and given_1 narrow_1), c.before args s = true) : (Cond.eq (Term.elem (Jvm.Term.static "StackJudge$Op" "NEEDS" "[I") (.int (Int32.ofNat 12))) (.int 2)).before args s = true := h _ (by decide +kernel)
theorem el_NEEDS_13 {args : Array Value} {s : State} (h : ∀ c ∈ flatC (Jvm.Cond.and given_1 narrow_1), c.before args s = true) : (Cond.eq (Term.elem (Jvm.Term.static "StackJudge$Op" "NEEDS" "[I") (.int (Int32.ofNat 13))) (.int 2)).before args s = true := h _ (by decide +kernel)
theorem el_NEEDS_14 {args : Array Value} {s : State} (h : ∀ c ∈ flatC (Jvm.Cond.and given_1 narrow_1), c.before args s = true) : (Cond.eq (Term.elem (Jvm.Term.static "StackJudge$Op" "NEEDS" "[I") (.int (Int32.ofNat 14))) (.int 0)).before args s = true := h _ (by decide +kernel)
theorem el_NEEDS_15 {args : Array Value} {s : State} (h : ∀ c ∈ flatC (Jvm.Cond.and given_1 narrow_1), c.before args s = true) : (Cond.eq (Term.elem (Jvm.Term.static "StackJudge$Op" "NEEDS" "[I") (.int (Int32.ofNat 15))) (.int 1)).before args s = true := h _ (by decide +kernel)
theorem el_NEEDS_16 {args : Array Value} {s : State} (h : ∀ c ∈ flatC (Jvm.Cond.and given_1 narrow_1), c.before args s = true) : (Cond.eq (Term.elem (Jvm.Term.static "StackJudge$Op" "NEEDS" "[I") (.int (Int32.ofNat 16))) (.int 2)).before args s = true := h _ (by decide +kernel)
theorem el_NEEDS_17 {args : Array Value} {s : State} (h : ∀ c ∈ flatC (Jvm.Cond.and given_1 narrow_1), c.before args s = true) : (Cond.eq (Term.elem (Jvm.Term.static "StackJudge$Op" "NEEDS" "[I") (.int (Int32.ofNat 17))) (.int 1)).before args s = true := h _ (by decide +kernel)
theorem el_NEEDS_18 {args : Array Value} {s : State} (h : ∀ c ∈ flatC (Jvm.Cond.and given_1 narrow_1), c.before args s = true) : (Cond.eq (Term.elem (Jvm.Term.static "StackJudge$Op" "NEEDS" "[I") (.int (Int32.ofNat 18))) (.int 0)).before args s = true := h _ (by decide +kernel)
theorem el_NEEDS {args : Array Value} {s : State} (h : ∀ c ∈ flatC (Jvm.Cond.and given_1 narrow_1), c.before args s = true) : ∀ j, j < 19 → (Cond.eq (Term.elem (Jvm.Term.static "StackJudge$Op" "NEEDS" "[I") (.int (Int32.ofNat j))) (.int (lN19.getD j 0))).before args s = true := by
  intro j hj
  rcases (by omega : j = 0 ∨ j = 1 ∨ j = 2 ∨ j = 3 ∨ j = 4 ∨ j = 5 ∨ j = 6 ∨ j = 7 ∨ j = 8 ∨ j = 9 ∨ j = 10 ∨ j = 11 ∨ j = 12 ∨ j = 13 ∨ j = 14 ∨ j = 15 ∨ j = 16 ∨ j = 17 ∨ j = 18) with rfl | rfl | rfl | rfl | rfl | rfl | rfl | rfl | rfl | rfl | rfl | rfl | rfl | rfl | rfl | rfl | rfl | rfl | rfl
  · exact el_NEEDS_0 h
  · exact el_NEEDS_1 h
  · exact el_NEEDS_2 h
  · exact el_NEEDS_3 h
  · exact el_NEEDS_4 h
  · exact el_NEEDS_5 h
  · exact el_NEEDS_6 h
  · exact el_NEEDS_7 h
  · exact el_NEEDS_8 h
  · exact el_NEEDS_9 h
  · exact el_NEEDS_10 h
  · exact el_NEEDS_11 h
  · exact el_NEEDS_12 h
  · exact el_NEEDS_13 h
  · exact el_NEEDS_14 h
  · exact el_NEEDS_15 h
  · exact el_NEEDS_16 h
  · exact el_NEEDS_17 h
  · exact el_NEEDS_18 h
theorem el_GROWTH_0 {args : Array Value} {s : State} (h : ∀ c ∈ flatC (Jvm.Cond.and given_1 narrow_1), c.before args s = true) : (Cond.eq (Term.elem (Jvm.Term.static "StackJudge$Op" "GROWTH" "[I") (.int (Int32.ofNat 0))) (.int 1)).before args s = true := h _ (by decide +kernel)
theorem el_GROWTH_1 {args : Array Value} {s : State} (h : ∀ c ∈ flatC (Jvm.Cond.and given_1 narrow_1), c.before args s = true) : (Cond.eq (Term.elem (Jvm.Term.static "StackJudge$Op" "GROWTH" "[I") (.int (Int32.ofNat 1))) (.int 1)).before args s = true := h _ (by decide +kernel)
theorem el_GROWTH_2 {args : Array Value} {s : State} (h : ∀ c ∈ flatC (Jvm.Cond.and given_1 narrow_1), c.before args s = true) : (Cond.eq (Term.elem (Jvm.Term.static "StackJudge$Op" "GROWTH" "[I") (.int (Int32.ofNat 2))) (.int 1)).before args s = true := h _ (by decide +kernel)
theorem el_GROWTH_3 {args : Array Value} {s : State} (h : ∀ c ∈ flatC (Jvm.Cond.and given_1 narrow_1), c.before args s = true) : (Cond.eq (Term.elem (Jvm.Term.static "StackJudge$Op" "GROWTH" "[I") (.int (Int32.ofNat 3))) (.int (-1))).before args s = true := h _ (by decide +kernel)
theorem el_GROWTH_4 {args : Array Value} {s : State} (h : ∀ c ∈ flatC (Jvm.Cond.and given_1 narrow_1), c.before args s = true) : (Cond.eq (Term.elem (Jvm.Term.static "StackJudge$Op" "GROWTH" "[I") (.int (Int32.ofNat 4))) (.int 1)).before args s = true := h _ (by decide +kernel)
theorem el_GROWTH_5 {args : Array Value} {s : State} (h : ∀ c ∈ flatC (Jvm.Cond.and given_1 narrow_1), c.before args s = true) : (Cond.eq (Term.elem (Jvm.Term.static "StackJudge$Op" "GROWTH" "[I") (.int (Int32.ofNat 5))) (.int 0)).before args s = true := h _ (by decide +kernel)
theorem el_GROWTH_6 {args : Array Value} {s : State} (h : ∀ c ∈ flatC (Jvm.Cond.and given_1 narrow_1), c.before args s = true) : (Cond.eq (Term.elem (Jvm.Term.static "StackJudge$Op" "GROWTH" "[I") (.int (Int32.ofNat 6))) (.int (-1))).before args s = true := h _ (by decide +kernel)
theorem el_GROWTH_7 {args : Array Value} {s : State} (h : ∀ c ∈ flatC (Jvm.Cond.and given_1 narrow_1), c.before args s = true) : (Cond.eq (Term.elem (Jvm.Term.static "StackJudge$Op" "GROWTH" "[I") (.int (Int32.ofNat 7))) (.int (-1))).before args s = true := h _ (by decide +kernel)
theorem el_GROWTH_8 {args : Array Value} {s : State} (h : ∀ c ∈ flatC (Jvm.Cond.and given_1 narrow_1), c.before args s = true) : (Cond.eq (Term.elem (Jvm.Term.static "StackJudge$Op" "GROWTH" "[I") (.int (Int32.ofNat 8))) (.int (-1))).before args s = true := h _ (by decide +kernel)
theorem el_GROWTH_9 {args : Array Value} {s : State} (h : ∀ c ∈ flatC (Jvm.Cond.and given_1 narrow_1), c.before args s = true) : (Cond.eq (Term.elem (Jvm.Term.static "StackJudge$Op" "GROWTH" "[I") (.int (Int32.ofNat 9))) (.int (-1))).before args s = true := h _ (by decide +kernel)
theorem el_GROWTH_10 {args : Array Value} {s : State} (h : ∀ c ∈ flatC (Jvm.Cond.and given_1 narrow_1), c.before args s = true) : (Cond.eq (Term.elem (Jvm.Term.static "StackJudge$Op" "GROWTH" "[I") (.int (Int32.ofNat 10))) (.int (-1))).before args s = true := h _ (by decide +kernel)
theorem el_GROWTH_11 {args : Array Value} {s : State} (h : ∀ c ∈ flatC (Jvm.Cond.and given_1 narrow_1), c.before args s = true) : (Cond.eq (Term.elem (Jvm.Term.static "StackJudge$Op" "GROWTH" "[I") (.int (Int32.ofNat 11))) (.int (-1))).before args s = true := h _ (by decide +kernel)
theorem el_GROWTH_12 {args : Array Value} {s : State} (h : ∀ c ∈ flatC (Jvm.Cond.and given_1 narrow_1), c.before args s = true) : (Cond.eq (Term.elem (Jvm.Term.static "StackJudge$Op" "GROWTH" "[I") (.int (Int32.ofNat 12))) (.int (-1))).before args s = true := h _ (by decide +kernel)
theorem el_GROWTH_13 {args : Array Value} {s : State} (h : ∀ c ∈ flatC (Jvm.Cond.and given_1 narrow_1), c.before args s = true) : (Cond.eq (Term.elem (Jvm.Term.static "StackJudge$Op" "GROWTH" "[I") (.int (Int32.ofNat 13))) (.int (-1))).before args s = true := h _ (by decide +kernel)
theorem el_GROWTH_14 {args : Array Value} {s : State} (h : ∀ c ∈ flatC (Jvm.Cond.and given_1 narrow_1), c.before args s = true) : (Cond.eq (Term.elem (Jvm.Term.static "StackJudge$Op" "GROWTH" "[I") (.int (Int32.ofNat 14))) (.int 0)).before args s = true := h _ (by decide +kernel)
theorem el_GROWTH_15 {args : Array Value} {s : State} (h : ∀ c ∈ flatC (Jvm.Cond.and given_1 narrow_1), c.before args s = true) : (Cond.eq (Term.elem (Jvm.Term.static "StackJudge$Op" "GROWTH" "[I") (.int (Int32.ofNat 15))) (.int (-1))).before args s = true := h _ (by decide +kernel)
theorem el_GROWTH_16 {args : Array Value} {s : State} (h : ∀ c ∈ flatC (Jvm.Cond.and given_1 narrow_1), c.before args s = true) : (Cond.eq (Term.elem (Jvm.Term.static "StackJudge$Op" "GROWTH" "[I") (.int (Int32.ofNat 16))) (.int (-2))).before args s = true := h _ (by decide +kernel)
theorem el_GROWTH_17 {args : Array Value} {s : State} (h : ∀ c ∈ flatC (Jvm.Cond.and given_1 narrow_1), c.before args s = true) : (Cond.eq (Term.elem (Jvm.Term.static "StackJudge$Op" "GROWTH" "[I") (.int (Int32.ofNat 17))) (.int 0)).before args s = true := h _ (by decide +kernel)
theorem el_GROWTH_18 {args : Array Value} {s : State} (h : ∀ c ∈ flatC (Jvm.Cond.and given_1 narrow_1), c.before args s = true) : (Cond.eq (Term.elem (Jvm.Term.static "StackJudge$Op" "GROWTH" "[I") (.int (Int32.ofNat 18))) (.int 0)).before args s = true := h _ (by decide +kernel)
theorem el_GROWTH {args : Array Value} {s : State} (h : ∀ c ∈ flatC (Jvm.Cond.and given_1 narrow_1), c.before args s = true) : ∀ j, j < 19 → (Cond.eq (Term.elem (Jvm.Term.static "StackJudge$Op" "GROWTH" "[I") (.int (Int32.ofNat j))) (.int (lG19.getD j 0))).before args s = true := by
  intro j hj
  rcases (by omega : j = 0 ∨ j = 1 ∨ j = 2 ∨ j = 3 ∨ j = 4 ∨ j = 5 ∨ j = 6 ∨ j = 7 ∨ j = 8 ∨ j = 9 ∨ j = 10 ∨ j = 11 ∨ j = 12 ∨ j = 13 ∨ j = 14 ∨ j = 15 ∨ j = 16 ∨ j = 17 ∨ j = 18) with rfl | rfl | rfl | rfl | rfl | rfl | rfl | rfl | rfl | rfl | rfl | rfl | rfl | rfl | rfl | rfl | rfl | rfl | rfl
  · exact el_GROWTH_0 h
  · exact el_GROWTH_1 h
  · exact el_GROWTH_2 h
  · exact el_GROWTH_3 h
  · exact el_GROWTH_4 h
  · exact el_GROWTH_5 h
  · exact el_GROWTH_6 h
  · exact el_GROWTH_7 h
  · exact el_GROWTH_8 h
  · exact el_GROWTH_9 h
  · exact el_GROWTH_10 h
  · exact el_GROWTH_11 h
  · exact el_GROWTH_12 h
  · exact el_GROWTH_13 h
  · exact el_GROWTH_14 h
  · exact el_GROWTH_15 h
  · exact el_GROWTH_16 h
  · exact el_GROWTH_17 h
  · exact el_GROWTH_18 h
set_option maxHeartbeats 4000000 in
theorem law_env {args : Array Value} {s : State} (hts0 : ∀ w ∈ lw_tbl, w.before args s = true) (hg : (Jvm.Cond.and given_1 narrow_1).before args s = true) : ∃ (D : va_G) (cI cZ : ClassId) (tN tG : Nat), EV D cI cZ s ∧ ST tN tG (fun q => s.heap.size ≤ q) s s.heap := by
  have hts : ∀ w ∈ gW, w.before args s = true := fun w h => hts0 w (List.mem_filter.mp h).1
  obtain ⟨c_SJ, i_SJ, kSJ⟩ := u_known (T := F_SJ) (N := 3) hts in_SJ (hts _ k_27)
  obtain ⟨c_Program, i_Program, kProgram⟩ := u_known (T := F_Program) (N := 5) hts in_Program (hts _ k_35)
  obtain ⟨c_Ways, i_Ways, kWays⟩ := u_known (T := F_Ways) (N := 3) hts in_Ways (hts _ k_61)
  obtain ⟨c_Machine, i_Machine, kMachine⟩ := u_known (T := F_Machine) (N := 10) hts in_Machine (hts _ k_78)
  obtain ⟨c_Model, i_Model, kModel⟩ := u_known (T := F_Model) (N := 13) hts in_Model (hts _ k_311)
  obtain ⟨cI, hI1, hI2⟩ := arrT (hts _ k_59) (Or.inl rfl)
  obtain ⟨cZ, hZ1, hZ2⟩ := arrT (hts _ k_356) (Or.inr rfl)
  have hfl := flat_of_before _ hg
  have hnA : ∀ a : Nat, a < s.heap.size → ¬ (fun q => s.heap.size ≤ q) a := fun a h q => Nat.not_lt.mpr q h
  have ha_NEEDS : (Cond.arrayOf (Jvm.Term.static "StackJudge$Op" "NEEDS" "[I") .int).before args s = true := hfl _ (by decide +kernel)
  have hn_NEEDS : (Cond.eq (Term.length (Jvm.Term.static "StackJudge$Op" "NEEDS" "[I")) (.int 19)).before args s = true := hfl _ (by decide +kernel)
  obtain ⟨tN, ev_NEEDS, T_NEEDS⟩ := va_Tof (N := 19) (f := fun j => .int (tNeeds j)) (A := fun q => s.heap.size ≤ q) (by decide) ha_NEEDS (va_eqt hn_NEEDS) (tab_elems lN19 rfl (fun j _ => rfl) (el_NEEDS hfl)) hnA
  have z_NEEDS := va_Zref (A := fun q => s.heap.size ≤ q) (hts0 _ ls_NEEDS) (hts _ k_24) ev_NEEDS hnA
  have ha_GROWTH : (Cond.arrayOf (Jvm.Term.static "StackJudge$Op" "GROWTH" "[I") .int).before args s = true := hfl _ (by decide +kernel)
  have hn_GROWTH : (Cond.eq (Term.length (Jvm.Term.static "StackJudge$Op" "GROWTH" "[I")) (.int 19)).before args s = true := hfl _ (by decide +kernel)
  obtain ⟨tG, ev_GROWTH, T_GROWTH⟩ := va_Tof (N := 19) (f := fun j => .int (tGrow j)) (A := fun q => s.heap.size ≤ q) (by decide) ha_GROWTH (va_eqt hn_GROWTH) (tab_elems lG19 rfl (fun j _ => rfl) (el_GROWTH hfl)) hnA
  have z_GROWTH := va_Zref (A := fun q => s.heap.size ≤ q) (hts0 _ ls_GROWTH) (hts _ k_24) ev_GROWTH hnA
  refine ⟨(fun c => match c with | 0 => c_SJ | 1 => c_Program | 2 => c_Ways | 3 => c_Machine | _ => c_Model, fun c => match c with | 0 => i_SJ | 1 => i_Program | 2 => i_Ways | 3 => i_Machine | _ => i_Model), cI, cZ, tN, tG, ⟨⟨fun c q hq => ?_, fun k q hq => ?_⟩, List.forall_mem_cons.mpr ⟨va_Nw.of rfl (hts0 _ nt_0), List.forall_mem_cons.mpr ⟨va_Nw.of rfl (hts0 _ nt_1), List.forall_mem_cons.mpr ⟨va_Nw.of rfl (hts0 _ nt_2), List.forall_mem_cons.mpr ⟨va_Nw.of rfl (hts0 _ nt_3), List.forall_mem_cons.mpr ⟨va_Nw.of rfl (hts0 _ nt_4), List.forall_mem_cons.mpr ⟨va_Nw.of rfl (hts0 _ nt_5), List.forall_mem_cons.mpr ⟨va_Nw.of rfl (hts0 _ nt_6), List.forall_mem_cons.mpr ⟨va_Nw.of rfl (hts0 _ nt_7), List.forall_mem_cons.mpr ⟨va_Nw.of rfl (hts0 _ nt_8), fun _ h => absurd h List.not_mem_nil⟩⟩⟩⟩⟩⟩⟩⟩⟩⟩, z_NEEDS, T_NEEDS, z_GROWTH, T_GROWTH⟩
  · match c, hq with
    | 0, hq => cases hq; exact kSJ
    | 1, hq => cases hq; exact kProgram
    | 2, hq => cases hq; exact kWays
    | 3, hq => cases hq; exact kMachine
    | 4, hq => cases hq; exact kModel
  · match k, hq with
    | 0, hq => cases hq; exact ⟨hI1, hI2⟩
    | 1, hq => cases hq; exact ⟨hZ1, hZ2⟩
