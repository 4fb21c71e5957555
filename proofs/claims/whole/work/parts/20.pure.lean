set_option maxHeartbeats 4000000 in
set_option maxRecDepth 100000 in
theorem c_Op_isOf (l : Launch) (op kd : Int32) : Met l y_Op_isOf w_Op_isOf (rmk 0) (va_Pc [.int op, .int kd] (fun _ => True)) (vp_Si (fun r => r = o_isOf op kd)) 0 0 (fun _ => False) := by
  refine Met.ofW (cc := b_Op_isOf) (maxL := 2) (ret := (some .boolean)) (by decide) rfl ?_
  intro p e s m args below meth c s₁ B hml hv
  obtain ⟨rfl, -⟩ := hv
  have hx := B.exec
  have hb := B.bytes
  have hr := B.returns
  have hts : ∀ w ∈ gW, w.before _ s = true := fun w h => atoms_spec (ws := w_Op_isOf) B.pre w (List.mem_cons_of_mem _ h)
  have hown : s.vm.findClass R_Op = some m.cls := findClass_of_methodNamed B.named
  have hlocks := B.notSynchronized
  have hl := lv_entry ([.int op, .int kd]) (n := 2) (Nat.le_of_ble_eq_true rfl)
  rw [lg_entry_eq]
  generalize (lg_sl ([.int op, .int kd]) ++ List.replicate (2 - (lg_sl ([.int op, .int kd])).length) Slot.unset).toArray = ls at hl ⊢
  have hl : lv_has ls 2 [(0, .int op), (1, .int kd)] := hl
  refine lv_iload_n hx hb d_Op_isOf_0 rfl (lv_at hl 0 rfl) ?_
  refine lv_bipush (v := 16) hx hb d_Op_isOf_1 (by decide) ?_
  refine lv_icmp_ne (tgt := 16) hx hb d_Op_isOf_3 (by decide) (fun h1 => ?_) (fun h1 => ?_)
  · -- ¬ op = 16
    refine lv_iload_n hx hb d_Op_isOf_16 rfl (lv_at hl 0 rfl) ?_
    refine lv_bipush (v := 18) hx hb d_Op_isOf_17 (by decide) ?_
    refine lv_icmp_ne (tgt := 33) hx hb d_Op_isOf_19 (by decide) (fun h2 => ?_) (fun h2 => ?_)
    · -- ¬ op = 18
      refine lv_iload_n hx hb d_Op_isOf_33 rfl (lv_at hl 0 rfl) ?_
      refine lv_if_lt (tgt := 47) hx hb d_Op_isOf_34 (by decide) (fun h3 => ?_) (fun h3 => ?_)
      · -- op < 0
        refine lv_iconst (v := 0) hx hb d_Op_isOf_47 (by decide) ?_
        refine W.zret hx hb hr (by decide) (fun t ht hW => ⟨_, rfl, ?_, ht⟩) (fun q h => by cases h) d_Op_isOf_48
        show 0 = o_isOf op kd
        first | (simp only [o_isOf, h1, h2, h3, if_true, if_false, eq_self, not_true_eq_false, not_false_eq_true, ne_eq]; done) | (simp only [o_isOf, h1, h2, h3, if_true, if_false, eq_self, not_true_eq_false, not_false_eq_true, ne_eq]; rfl) | (simp [o_isOf, h1, h2, h3]; done)
      · -- ¬ op < 0
        refine lv_iload_n hx hb d_Op_isOf_37 rfl (lv_at hl 0 rfl) ?_
        refine lv_bipush (v := 17) hx hb d_Op_isOf_38 (by decide) ?_
        refine lv_icmp_gt (tgt := 47) hx hb d_Op_isOf_40 (by decide) (fun h4 => ?_) (fun h4 => ?_)
        · -- 17 < op
          refine lv_iconst (v := 0) hx hb d_Op_isOf_47 (by decide) ?_
          refine W.zret hx hb hr (by decide) (fun t ht hW => ⟨_, rfl, ?_, ht⟩) (fun q h => by cases h) d_Op_isOf_48
          show 0 = o_isOf op kd
          first | (simp only [o_isOf, h1, h2, h3, h4, if_true, if_false, eq_self, not_true_eq_false, not_false_eq_true, ne_eq]; done) | (simp only [o_isOf, h1, h2, h3, h4, if_true, if_false, eq_self, not_true_eq_false, not_false_eq_true, ne_eq]; rfl) | (simp [o_isOf, h1, h2, h3, h4]; done)
        · -- ¬ 17 < op
          refine lv_iconst (v := 1) hx hb d_Op_isOf_43 (by decide) ?_
          refine lv_goto (tgt := 48) hx hb d_Op_isOf_44 (by decide) ?_
          refine W.zret hx hb hr (by decide) (fun t ht hW => ⟨_, rfl, ?_, ht⟩) (fun q h => by cases h) d_Op_isOf_48
          show 1 = o_isOf op kd
          first | (simp only [o_isOf, h1, h2, h3, h4, if_true, if_false, eq_self, not_true_eq_false, not_false_eq_true, ne_eq]; done) | (simp only [o_isOf, h1, h2, h3, h4, if_true, if_false, eq_self, not_true_eq_false, not_false_eq_true, ne_eq]; rfl) | (simp [o_isOf, h1, h2, h3, h4]; done)
    · -- op = 18
      refine lv_iload_n hx hb d_Op_isOf_22 rfl (lv_at hl 1 rfl) ?_
      refine lv_iconst (v := 3) hx hb d_Op_isOf_23 (by decide) ?_
      refine lv_icmp_ne (tgt := 31) hx hb d_Op_isOf_24 (by decide) (fun h5 => ?_) (fun h5 => ?_)
      · -- ¬ kd = 3
        refine lv_iconst (v := 0) hx hb d_Op_isOf_31 (by decide) ?_
        refine W.zret hx hb hr (by decide) (fun t ht hW => ⟨_, rfl, ?_, ht⟩) (fun q h => by cases h) d_Op_isOf_32
        show 0 = o_isOf op kd
        first | (simp only [o_isOf, h1, h2, h5, if_true, if_false, eq_self, not_true_eq_false, not_false_eq_true, ne_eq]; done) | (simp only [o_isOf, h1, h2, h5, if_true, if_false, eq_self, not_true_eq_false, not_false_eq_true, ne_eq]; rfl) | (simp [o_isOf, h1, h2, h5]; done)
      · -- kd = 3
        refine lv_iconst (v := 1) hx hb d_Op_isOf_27 (by decide) ?_
        refine lv_goto (tgt := 32) hx hb d_Op_isOf_28 (by decide) ?_
        refine W.zret hx hb hr (by decide) (fun t ht hW => ⟨_, rfl, ?_, ht⟩) (fun q h => by cases h) d_Op_isOf_32
        show 1 = o_isOf op kd
        first | (simp only [o_isOf, h1, h2, h5, if_true, if_false, eq_self, not_true_eq_false, not_false_eq_true, ne_eq]; done) | (simp only [o_isOf, h1, h2, h5, if_true, if_false, eq_self, not_true_eq_false, not_false_eq_true, ne_eq]; rfl) | (simp [o_isOf, h1, h2, h5]; done)
  · -- op = 16
    refine lv_iload_n hx hb d_Op_isOf_6 rfl (lv_at hl 1 rfl) ?_
    refine lv_if_ne (tgt := 14) hx hb d_Op_isOf_7 (by decide) (fun h6 => ?_) (fun h6 => ?_)
    · -- ¬ kd = 0
      refine lv_iconst (v := 0) hx hb d_Op_isOf_14 (by decide) ?_
      refine W.zret hx hb hr (by decide) (fun t ht hW => ⟨_, rfl, ?_, ht⟩) (fun q h => by cases h) d_Op_isOf_15
      show 0 = o_isOf op kd
      first | (simp only [o_isOf, h1, h6, if_true, if_false, eq_self, not_true_eq_false, not_false_eq_true, ne_eq]; done) | (simp only [o_isOf, h1, h6, if_true, if_false, eq_self, not_true_eq_false, not_false_eq_true, ne_eq]; rfl) | (simp [o_isOf, h1, h6]; done)
    · -- kd = 0
      refine lv_iconst (v := 1) hx hb d_Op_isOf_10 (by decide) ?_
      refine lv_goto (tgt := 15) hx hb d_Op_isOf_11 (by decide) ?_
      refine W.zret hx hb hr (by decide) (fun t ht hW => ⟨_, rfl, ?_, ht⟩) (fun q h => by cases h) d_Op_isOf_15
      show 1 = o_isOf op kd
      first | (simp only [o_isOf, h1, h6, if_true, if_false, eq_self, not_true_eq_false, not_false_eq_true, ne_eq]; done) | (simp only [o_isOf, h1, h6, if_true, if_false, eq_self, not_true_eq_false, not_false_eq_true, ne_eq]; rfl) | (simp [o_isOf, h1, h6]; done)
set_option maxHeartbeats 4000000 in
set_option maxRecDepth 100000 in
theorem c_Op_jumps (l : Launch) (op : Int32) : Met l y_Op_jumps w_Op_jumps (rmk 0) (va_Pc [.int op] (fun _ => True)) (vp_Si (fun r => r = o_jump op)) 0 0 (fun _ => False) := by
  refine Met.ofW (cc := b_Op_jumps) (maxL := 1) (ret := (some .boolean)) (by decide) rfl ?_
  intro p e s m args below meth c s₁ B hml hv
  obtain ⟨rfl, -⟩ := hv
  have hx := B.exec
  have hb := B.bytes
  have hr := B.returns
  have hts : ∀ w ∈ gW, w.before _ s = true := fun w h => atoms_spec (ws := w_Op_jumps) B.pre w (List.mem_cons_of_mem _ h)
  have hown : s.vm.findClass R_Op = some m.cls := findClass_of_methodNamed B.named
  have hlocks := B.notSynchronized
  have hl := lv_entry ([.int op]) (n := 1) (Nat.le_of_ble_eq_true rfl)
  rw [lg_entry_eq]
  generalize (lg_sl ([.int op]) ++ List.replicate (1 - (lg_sl ([.int op])).length) Slot.unset).toArray = ls at hl ⊢
  have hl : lv_has ls 1 [(0, .int op)] := hl
  refine lv_iload_n hx hb d_Op_jumps_0 rfl (lv_at hl 0 rfl) ?_
  refine lv_bipush (v := 14) hx hb d_Op_jumps_1 (by decide) ?_
  refine lv_icmp_eq (tgt := 12) hx hb d_Op_jumps_3 (by decide) (fun h1 => ?_) (fun h1 => ?_)
  · -- op = 14
    refine lv_iconst (v := 1) hx hb d_Op_jumps_12 (by decide) ?_
    refine lv_goto (tgt := 17) hx hb d_Op_jumps_13 (by decide) ?_
    refine W.zret hx hb hr (by decide) (fun t ht hW => ⟨_, rfl, ?_, ht⟩) (fun q h => by cases h) d_Op_jumps_17
    show 1 = o_jump op
    first | (simp only [o_jump, h1, if_true, if_false, eq_self, not_true_eq_false, not_false_eq_true, ne_eq]; done) | (simp only [o_jump, h1, if_true, if_false, eq_self, not_true_eq_false, not_false_eq_true, ne_eq]; rfl) | (simp [o_jump, h1]; done)
  · -- ¬ op = 14
    refine lv_iload_n hx hb d_Op_jumps_6 rfl (lv_at hl 0 rfl) ?_
    refine lv_bipush (v := 15) hx hb d_Op_jumps_7 (by decide) ?_
    refine lv_icmp_ne (tgt := 16) hx hb d_Op_jumps_9 (by decide) (fun h2 => ?_) (fun h2 => ?_)
    · -- ¬ op = 15
      refine lv_iconst (v := 0) hx hb d_Op_jumps_16 (by decide) ?_
      refine W.zret hx hb hr (by decide) (fun t ht hW => ⟨_, rfl, ?_, ht⟩) (fun q h => by cases h) d_Op_jumps_17
      show 0 = o_jump op
      first | (simp only [o_jump, h1, h2, if_true, if_false, eq_self, not_true_eq_false, not_false_eq_true, ne_eq]; done) | (simp only [o_jump, h1, h2, if_true, if_false, eq_self, not_true_eq_false, not_false_eq_true, ne_eq]; rfl) | (simp [o_jump, h1, h2]; done)
    · -- op = 15
      refine lv_iconst (v := 1) hx hb d_Op_jumps_12 (by decide) ?_
      refine lv_goto (tgt := 17) hx hb d_Op_jumps_13 (by decide) ?_
      refine W.zret hx hb hr (by decide) (fun t ht hW => ⟨_, rfl, ?_, ht⟩) (fun q h => by cases h) d_Op_jumps_17
      show 1 = o_jump op
      first | (simp only [o_jump, h1, h2, if_true, if_false, eq_self, not_true_eq_false, not_false_eq_true, ne_eq]; done) | (simp only [o_jump, h1, h2, if_true, if_false, eq_self, not_true_eq_false, not_false_eq_true, ne_eq]; rfl) | (simp [o_jump, h1, h2]; done)
set_option maxHeartbeats 4000000 in
set_option maxRecDepth 100000 in
theorem c_Op_hasNext (l : Launch) (op : Int32) : Met l y_Op_hasNext w_Op_hasNext (rmk 0) (va_Pc [.int op] (fun _ => True)) (vp_Si (fun r => r = o_next op)) 0 0 (fun _ => False) := by
  refine Met.ofW (cc := b_Op_hasNext) (maxL := 1) (ret := (some .boolean)) (by decide) rfl ?_
  intro p e s m args below meth c s₁ B hml hv
  obtain ⟨rfl, -⟩ := hv
  have hx := B.exec
  have hb := B.bytes
  have hr := B.returns
  have hts : ∀ w ∈ gW, w.before _ s = true := fun w h => atoms_spec (ws := w_Op_hasNext) B.pre w (List.mem_cons_of_mem _ h)
  have hown : s.vm.findClass R_Op = some m.cls := findClass_of_methodNamed B.named
  have hlocks := B.notSynchronized
  have hl := lv_entry ([.int op]) (n := 1) (Nat.le_of_ble_eq_true rfl)
  rw [lg_entry_eq]
  generalize (lg_sl ([.int op]) ++ List.replicate (1 - (lg_sl ([.int op])).length) Slot.unset).toArray = ls at hl ⊢
  have hl : lv_has ls 1 [(0, .int op)] := hl
  refine lv_iload_n hx hb d_Op_hasNext_0 rfl (lv_at hl 0 rfl) ?_
  refine lv_bipush (v := 14) hx hb d_Op_hasNext_1 (by decide) ?_
  refine lv_icmp_eq (tgt := 22) hx hb d_Op_hasNext_3 (by decide) (fun h1 => ?_) (fun h1 => ?_)
  · -- op = 14
    refine lv_iconst (v := 0) hx hb d_Op_hasNext_22 (by decide) ?_
    refine W.zret hx hb hr (by decide) (fun t ht hW => ⟨_, rfl, ?_, ht⟩) (fun q h => by cases h) d_Op_hasNext_23
    show 0 = o_next op
    first | (simp only [o_next, h1, if_true, if_false, eq_self, not_true_eq_false, not_false_eq_true, ne_eq]; done) | (simp only [o_next, h1, if_true, if_false, eq_self, not_true_eq_false, not_false_eq_true, ne_eq]; rfl) | (simp [o_next, h1]; done)
  · -- ¬ op = 14
    refine lv_iload_n hx hb d_Op_hasNext_6 rfl (lv_at hl 0 rfl) ?_
    refine lv_bipush (v := 17) hx hb d_Op_hasNext_7 (by decide) ?_
    refine lv_icmp_eq (tgt := 22) hx hb d_Op_hasNext_9 (by decide) (fun h2 => ?_) (fun h2 => ?_)
    · -- op = 17
      refine lv_iconst (v := 0) hx hb d_Op_hasNext_22 (by decide) ?_
      refine W.zret hx hb hr (by decide) (fun t ht hW => ⟨_, rfl, ?_, ht⟩) (fun q h => by cases h) d_Op_hasNext_23
      show 0 = o_next op
      first | (simp only [o_next, h1, h2, if_true, if_false, eq_self, not_true_eq_false, not_false_eq_true, ne_eq]; done) | (simp only [o_next, h1, h2, if_true, if_false, eq_self, not_true_eq_false, not_false_eq_true, ne_eq]; rfl) | (simp [o_next, h1, h2]; done)
    · -- ¬ op = 17
      refine lv_iload_n hx hb d_Op_hasNext_12 rfl (lv_at hl 0 rfl) ?_
      refine lv_bipush (v := 18) hx hb d_Op_hasNext_13 (by decide) ?_
      refine lv_icmp_eq (tgt := 22) hx hb d_Op_hasNext_15 (by decide) (fun h3 => ?_) (fun h3 => ?_)
      · -- op = 18
        refine lv_iconst (v := 0) hx hb d_Op_hasNext_22 (by decide) ?_
        refine W.zret hx hb hr (by decide) (fun t ht hW => ⟨_, rfl, ?_, ht⟩) (fun q h => by cases h) d_Op_hasNext_23
        show 0 = o_next op
        first | (simp only [o_next, h1, h2, h3, if_true, if_false, eq_self, not_true_eq_false, not_false_eq_true, ne_eq]; done) | (simp only [o_next, h1, h2, h3, if_true, if_false, eq_self, not_true_eq_false, not_false_eq_true, ne_eq]; rfl) | (simp [o_next, h1, h2, h3]; done)
      · -- ¬ op = 18
        refine lv_iconst (v := 1) hx hb d_Op_hasNext_18 (by decide) ?_
        refine lv_goto (tgt := 23) hx hb d_Op_hasNext_19 (by decide) ?_
        refine W.zret hx hb hr (by decide) (fun t ht hW => ⟨_, rfl, ?_, ht⟩) (fun q h => by cases h) d_Op_hasNext_23
        show 1 = o_next op
        first | (simp only [o_next, h1, h2, h3, if_true, if_false, eq_self, not_true_eq_false, not_false_eq_true, ne_eq]; done) | (simp only [o_next, h1, h2, h3, if_true, if_false, eq_self, not_true_eq_false, not_false_eq_true, ne_eq]; rfl) | (simp [o_next, h1, h2, h3]; done)
set_option maxHeartbeats 4000000 in
set_option maxRecDepth 100000 in
theorem c_Machine_combine (l : Launch) (op x y : Int32) : Met l y_Machine_combine w_Machine_combine (rmk 0) (va_Pc [.int op, .int x, .int y] (fun _ => True)) (vp_Si (fun r => r = m_comb op x y)) 0 0 (fun _ => False) := by
  refine Met.ofW (cc := b_Machine_combine) (maxL := 3) (ret := (some .int)) (by decide) rfl ?_
  intro p e s m args below meth c s₁ B hml hv
  obtain ⟨rfl, -⟩ := hv
  have hx := B.exec
  have hb := B.bytes
  have hr := B.returns
  have hts : ∀ w ∈ gW, w.before _ s = true := fun w h => atoms_spec (ws := w_Machine_combine) B.pre w (List.mem_cons_of_mem _ h)
  have hown : s.vm.findClass R_Machine = some m.cls := findClass_of_methodNamed B.named
  have hlocks := B.notSynchronized
  have hl := lv_entry ([.int op, .int x, .int y]) (n := 3) (Nat.le_of_ble_eq_true rfl)
  rw [lg_entry_eq]
  generalize (lg_sl ([.int op, .int x, .int y]) ++ List.replicate (3 - (lg_sl ([.int op, .int x, .int y])).length) Slot.unset).toArray = ls at hl ⊢
  have hl : lv_has ls 3 [(0, .int op), (1, .int x), (2, .int y)] := hl
  refine lv_iload_n hx hb d_Machine_combine_0 rfl (lv_at hl 0 rfl) ?_
  rcases (by omega : (Int32.toInt op < 7 ∨ 12 < Int32.toInt op) ∨ Int32.toInt op = 7 ∨ Int32.toInt op = 8 ∨ Int32.toInt op = 9 ∨ Int32.toInt op = 10 ∨ Int32.toInt op = 11 ∨ Int32.toInt op = 12) with h1 | h1 | h1 | h1 | h1 | h1 | h1
  · -- default
    refine lv_tableOut (tgt := 87) hx hb d_Machine_combine_1 h1 (by decide) ?_
    refine lv_iload_n hx hb d_Machine_combine_87 rfl (lv_at hl 1 rfl) ?_
    refine lv_iload_n hx hb d_Machine_combine_88 rfl (lv_at hl 2 rfl) ?_
    refine lv_icmp_ne (tgt := 96) hx hb d_Machine_combine_89 (by decide) (fun h2 => ?_) (fun h2 => ?_)
    · -- ¬ x = y
      refine lv_iconst (v := 0) hx hb d_Machine_combine_96 (by decide) ?_
      refine W.iret hx hb hr (fun t ht hW => ⟨_, rfl, ?_, ht⟩) (fun q h => by cases h) d_Machine_combine_97
      show 0 = m_comb op x y
      (have g7 := sw_ne (k := 7) h1 (by decide); have g8 := sw_ne (k := 8) h1 (by decide); have g9 := sw_ne (k := 9) h1 (by decide); have g10 := sw_ne (k := 10) h1 (by decide); have g11 := sw_ne (k := 11) h1 (by decide); have g12 := sw_ne (k := 12) h1 (by decide); simp only [m_comb, g7, g8, g9, g10, g11, g12, h2, if_true, if_false, eq_self, not_true_eq_false, not_false_eq_true, ne_eq])
    · -- x = y
      refine lv_iconst (v := 1) hx hb d_Machine_combine_92 (by decide) ?_
      refine lv_goto (tgt := 97) hx hb d_Machine_combine_93 (by decide) ?_
      refine W.iret hx hb hr (fun t ht hW => ⟨_, rfl, ?_, ht⟩) (fun q h => by cases h) d_Machine_combine_97
      show 1 = m_comb op x y
      (have g7 := sw_ne (k := 7) h1 (by decide); have g8 := sw_ne (k := 8) h1 (by decide); have g9 := sw_ne (k := 9) h1 (by decide); have g10 := sw_ne (k := 10) h1 (by decide); have g11 := sw_ne (k := 11) h1 (by decide); have g12 := sw_ne (k := 12) h1 (by decide); simp only [m_comb, g7, g8, g9, g10, g11, g12, h2, if_true, if_false, eq_self, not_true_eq_false, not_false_eq_true, ne_eq])
  · -- case 7
    have h1 : op = 7 := Int32.toInt_inj.mp (by rw [h1]; decide)
    subst h1
    refine lv_tableIn (tgt := 40) (off := 39) hx hb d_Machine_combine_1 (by decide) (by decide) (by decide +kernel) (by decide) ?_
    refine lv_iload_n hx hb d_Machine_combine_40 rfl (lv_at hl 1 rfl) ?_
    refine lv_iload_n hx hb d_Machine_combine_41 rfl (lv_at hl 2 rfl) ?_
    refine lv_iadd hx hb d_Machine_combine_42 ?_
    refine W.iret hx hb hr (fun t ht hW => ⟨_, rfl, ?_, ht⟩) (fun q h => by cases h) d_Machine_combine_43
    show (x + y) = m_comb 7 x y
    first | rfl | (simp only [m_comb, if_true, if_false, eq_self, not_true_eq_false, not_false_eq_true, ne_eq]; rfl) | (unfold m_comb; simp [])
  · -- case 8
    have h1 : op = 8 := Int32.toInt_inj.mp (by rw [h1]; decide)
    subst h1
    refine lv_tableIn (tgt := 44) (off := 43) hx hb d_Machine_combine_1 (by decide) (by decide) (by decide +kernel) (by decide) ?_
    refine lv_iload_n hx hb d_Machine_combine_44 rfl (lv_at hl 1 rfl) ?_
    refine lv_iload_n hx hb d_Machine_combine_45 rfl (lv_at hl 2 rfl) ?_
    refine lv_isub hx hb d_Machine_combine_46 ?_
    refine W.iret hx hb hr (fun t ht hW => ⟨_, rfl, ?_, ht⟩) (fun q h => by cases h) d_Machine_combine_47
    show (x - y) = m_comb 8 x y
    first | rfl | (simp only [m_comb, if_true, if_false, eq_self, not_true_eq_false, not_false_eq_true, ne_eq]; rfl) | (unfold m_comb; simp [])
  · -- case 9
    have h1 : op = 9 := Int32.toInt_inj.mp (by rw [h1]; decide)
    subst h1
    refine lv_tableIn (tgt := 48) (off := 47) hx hb d_Machine_combine_1 (by decide) (by decide) (by decide +kernel) (by decide) ?_
    refine lv_iload_n hx hb d_Machine_combine_48 rfl (lv_at hl 1 rfl) ?_
    refine lv_iload_n hx hb d_Machine_combine_49 rfl (lv_at hl 2 rfl) ?_
    refine lv_imul hx hb d_Machine_combine_50 ?_
    refine W.iret hx hb hr (fun t ht hW => ⟨_, rfl, ?_, ht⟩) (fun q h => by cases h) d_Machine_combine_51
    show (x * y) = m_comb 9 x y
    first | rfl | (simp only [m_comb, if_true, if_false, eq_self, not_true_eq_false, not_false_eq_true, ne_eq]; rfl) | (unfold m_comb; simp [])
  · -- case 10
    have h1 : op = 10 := Int32.toInt_inj.mp (by rw [h1]; decide)
    subst h1
    refine lv_tableIn (tgt := 52) (off := 51) hx hb d_Machine_combine_1 (by decide) (by decide) (by decide +kernel) (by decide) ?_
    refine lv_iload_n hx hb d_Machine_combine_52 rfl (lv_at hl 2 rfl) ?_
    refine lv_if_ne (tgt := 60) hx hb d_Machine_combine_53 (by decide) (fun h3 => ?_) (fun h3 => ?_)
    · -- ¬ y = 0
      refine lv_iload_n hx hb d_Machine_combine_60 rfl (lv_at hl 1 rfl) ?_
      refine lv_iload_n hx hb d_Machine_combine_61 rfl (lv_at hl 2 rfl) ?_
      refine lv_idiv hx hb d_Machine_combine_62 h3 ?_
      refine W.iret hx hb hr (fun t ht hW => ⟨_, rfl, ?_, ht⟩) (fun q h => by cases h) d_Machine_combine_63
      show (x / y) = m_comb 10 x y
      first | rfl | (simp only [m_comb, h3, if_true, if_false, eq_self, not_true_eq_false, not_false_eq_true, ne_eq]; rfl) | (unfold m_comb; simp [h3])
    · -- y = 0
      refine lv_iconst (v := 0) hx hb d_Machine_combine_56 (by decide) ?_
      refine lv_goto (tgt := 63) hx hb d_Machine_combine_57 (by decide) ?_
      refine W.iret hx hb hr (fun t ht hW => ⟨_, rfl, ?_, ht⟩) (fun q h => by cases h) d_Machine_combine_63
      show 0 = m_comb 10 x y
      first | rfl | (simp only [m_comb, h3, if_true, if_false, eq_self, not_true_eq_false, not_false_eq_true, ne_eq]; rfl) | (unfold m_comb; simp [h3])
  · -- case 11
    have h1 : op = 11 := Int32.toInt_inj.mp (by rw [h1]; decide)
    subst h1
    refine lv_tableIn (tgt := 64) (off := 63) hx hb d_Machine_combine_1 (by decide) (by decide) (by decide +kernel) (by decide) ?_
    refine lv_iload_n hx hb d_Machine_combine_64 rfl (lv_at hl 2 rfl) ?_
    refine lv_if_ne (tgt := 72) hx hb d_Machine_combine_65 (by decide) (fun h4 => ?_) (fun h4 => ?_)
    · -- ¬ y = 0
      refine lv_iload_n hx hb d_Machine_combine_72 rfl (lv_at hl 1 rfl) ?_
      refine lv_iload_n hx hb d_Machine_combine_73 rfl (lv_at hl 2 rfl) ?_
      refine lv_irem hx hb d_Machine_combine_74 h4 ?_
      refine W.iret hx hb hr (fun t ht hW => ⟨_, rfl, ?_, ht⟩) (fun q h => by cases h) d_Machine_combine_75
      show (x - x / y * y) = m_comb 11 x y
      first | rfl | (simp only [m_comb, h4, if_true, if_false, eq_self, not_true_eq_false, not_false_eq_true, ne_eq]; rfl) | (unfold m_comb; simp [h4])
    · -- y = 0
      refine lv_iconst (v := 0) hx hb d_Machine_combine_68 (by decide) ?_
      refine lv_goto (tgt := 75) hx hb d_Machine_combine_69 (by decide) ?_
      refine W.iret hx hb hr (fun t ht hW => ⟨_, rfl, ?_, ht⟩) (fun q h => by cases h) d_Machine_combine_75
      show 0 = m_comb 11 x y
      first | rfl | (simp only [m_comb, h4, if_true, if_false, eq_self, not_true_eq_false, not_false_eq_true, ne_eq]; rfl) | (unfold m_comb; simp [h4])
  · -- case 12
    have h1 : op = 12 := Int32.toInt_inj.mp (by rw [h1]; decide)
    subst h1
    refine lv_tableIn (tgt := 76) (off := 75) hx hb d_Machine_combine_1 (by decide) (by decide) (by decide +kernel) (by decide) ?_
    refine lv_iload_n hx hb d_Machine_combine_76 rfl (lv_at hl 1 rfl) ?_
    refine lv_iload_n hx hb d_Machine_combine_77 rfl (lv_at hl 2 rfl) ?_
    refine lv_icmp_ge (tgt := 85) hx hb d_Machine_combine_78 (by decide) (fun h5 => ?_) (fun h5 => ?_)
    · -- y ≤ x
      refine lv_iconst (v := 0) hx hb d_Machine_combine_85 (by decide) ?_
      refine W.iret hx hb hr (fun t ht hW => ⟨_, rfl, ?_, ht⟩) (fun q h => by cases h) d_Machine_combine_86
      show 0 = m_comb 12 x y
      first | rfl | (simp only [m_comb, h5, if_true, if_false, eq_self, not_true_eq_false, not_false_eq_true, ne_eq]; rfl) | (unfold m_comb; simp [h5])
    · -- ¬ y ≤ x
      refine lv_iconst (v := 1) hx hb d_Machine_combine_81 (by decide) ?_
      refine lv_goto (tgt := 86) hx hb d_Machine_combine_82 (by decide) ?_
      refine W.iret hx hb hr (fun t ht hW => ⟨_, rfl, ?_, ht⟩) (fun q h => by cases h) d_Machine_combine_86
      show 1 = m_comb 12 x y
      first | rfl | (simp only [m_comb, h5, if_true, if_false, eq_self, not_true_eq_false, not_false_eq_true, ne_eq]; rfl) | (unfold m_comb; simp [h5])
set_option maxHeartbeats 4000000 in
set_option maxRecDepth 100000 in
theorem c_SJ_read (l : Launch) (a n : Nat) (f : Nat → Int32) (i : Int32) (hn : n < 2 ^ 31) : Met l y_SJ_read w_SJ_read (rmk 0) (va_Pc [.ref a, .int i] (RP a n f)) (vp_Si (fun r => r = rd f n i)) 0 0 (fun _ => False) := by
  refine Met.ofW (cc := b_SJ_read) (maxL := 2) (ret := (some .int)) (by decide) rfl ?_
  intro p e s m args below meth c s₁ B hml hv
  obtain ⟨rfl, hT⟩ := hv
  have hx := B.exec
  have hb := B.bytes
  have hr := B.returns
  have hlocks := B.notSynchronized
  have hS : va_S (fun _ => False) s.heap s.heap [] := va_S.rf
  have hT : va_T .int a n (fun j => .int (f j)) (fun _ => False) s s.heap := hT
  have hl := lv_entry ([.ref a, .int i]) (n := 2) (Nat.le_of_ble_eq_true rfl)
  rw [lg_entry_eq]
  generalize (lg_sl ([.ref a, .int i]) ++ List.replicate (2 - (lg_sl ([.ref a, .int i])).length) Slot.unset).toArray = ls at hl ⊢
  have hl : lv_has ls 2 [(0, .ref a), (1, .int i)] := hl
  refine lv_iload_n hx hb d_SJ_read_0 rfl (lv_at hl 1 rfl) ?_
  refine lv_if_lt (tgt := 16) hx hb d_SJ_read_1 (by decide) (fun h1 => ?_) (fun h1 => ?_)
  · refine lv_iconst (v := 0) hx hb d_SJ_read_16 (by decide) ?_
    refine W.iret hx hb hr (fun t ht hW => ⟨_, rfl, ?_, ht⟩) (fun q h => by cases h) d_SJ_read_17
    show 0 = rd f n i
    simp only [rd, h1, if_true, if_false]
  · refine lv_iload_n hx hb d_SJ_read_4 rfl (lv_at hl 1 rfl) ?_
    refine lv_aload_n hx hb d_SJ_read_5 rfl (lv_at hl 0 rfl) ?_
    refine va_tlen (v := nI n) hx hb hT hS rfl d_SJ_read_6 ?_
    refine lv_icmp_ge (tgt := 16) hx hb d_SJ_read_7 (by decide) (fun h2 => ?_) (fun h2 => ?_)
    · refine lv_iconst (v := 0) hx hb d_SJ_read_16 (by decide) ?_
      refine W.iret hx hb hr (fun t ht hW => ⟨_, rfl, ?_, ht⟩) (fun q h => by cases h) d_SJ_read_17
      show 0 = rd f n i
      simp only [rd, h1, h2, if_true, if_false]
    · refine lv_aload_n hx hb d_SJ_read_10 rfl (lv_at hl 0 rfl) ?_
      refine lv_iload_n hx hb d_SJ_read_11 rfl (lv_at hl 1 rfl) ?_
      refine va_ti (v := .int (f i.toNatClampNeg)) hx hb hT hS (nI_inr hn h1 h2) rfl d_SJ_read_12 ?_
      refine lv_goto (tgt := 17) hx hb d_SJ_read_13 (by decide) ?_
      refine W.iret hx hb hr (fun t ht hW => ⟨_, rfl, ?_, ht⟩) (fun q h => by cases h) d_SJ_read_17
      show f i.toNatClampNeg = rd f n i
      simp only [rd, h1, h2, if_true, if_false]
set_option maxHeartbeats 4000000 in
set_option maxRecDepth 100000 in
theorem c_SJ_write (l : Launch) (D : va_G) (cI cZ : ClassId) (tN tG : Nat) (hz : Nat) (a n : Nat) (f : Nat → Int32) (i v : Int32) (hn : n < 2 ^ 31) : Met l y_SJ_write w_SJ_write (rmk 0) (va_Pc [.ref a, .int i, .int v] (MZ D cI cZ tN tG [(a, .inl (cI, n, .inl f))] hz)) (va_Qv (fun u : Nat → Int32 => u = wr f n i v) (fun u t => ME D (va_A [(a, .inl (cI, n, .inl f))] hz) [(a, .inl (cI, n, .inl u))] t) (va_A [(a, .inl (cI, n, .inl f))] hz)) 0 0 (va_A [(a, .inl (cI, n, .inl f))] hz) := by
  refine Met.ofW (cc := b_SJ_write) (maxL := 3) (ret := none) (by decide) rfl ?_
  intro p e s m args below meth c s₁ B hml hv
  obtain ⟨rfl, hsz, hP, hE, hD0, hZ⟩ := hv
  have hx := B.exec
  have hb := B.bytes
  have hr := B.returns
  have hts : ∀ w ∈ gW, w.before _ s = true := fun w h => atoms_spec (ws := w_SJ_write) B.pre w (List.mem_cons_of_mem _ h)
  have hown : s.vm.findClass R_SJ = some m.cls := findClass_of_methodNamed B.named
  have hlocks := B.notSynchronized
  subst hsz
  have hD := hD0.self (sz := s.heap.size)
  have hA : ∀ q : Nat, s.heap.size ≤ q → va_A [(a, .inl (cI, n, .inl f))] s.heap.size q := fun q h => Or.inr h
  generalize va_A [(a, .inl (cI, n, .inl f))] s.heap.size = A at hD hA hZ ⊢
  have hS : va_S A s.heap s.heap [] := va_S.rf
  have hP : va_P D classes [(a, .inl (cI, n, .inl f))] s.heap := hP
  have hD : va_D A [(a, .inl (cI, n, .inl f))] := hD
  have hl := lv_entry ([.ref a, .int i, .int v]) (n := 3) (Nat.le_of_ble_eq_true rfl)
  rw [lg_entry_eq]
  generalize (lg_sl ([.ref a, .int i, .int v]) ++ List.replicate (3 - (lg_sl ([.ref a, .int i, .int v])).length) Slot.unset).toArray = ls at hl ⊢
  have hl : lv_has ls 3 [(0, .ref a), (1, .int i), (2, .int v)] := hl
  refine lv_iload_n hx hb d_SJ_write_0 rfl (lv_at hl 1 rfl) ?_
  refine lv_if_lt (tgt := 14) hx hb d_SJ_write_1 (by decide) (fun h1 => ?_) (fun h1 => ?_)
  · -- i < 0
    refine W.vret hx hb hr (fun t ht hW => ⟨⟨f, rfl, ?_, ?_⟩, hS.F ht⟩) hS.2.2 d_SJ_write_14
    · first | (simp only [wr, h1, if_true, if_false, eq_self, not_true_eq_false, not_false_eq_true, ne_eq]; done) | (simp only [wr, h1, if_true, if_false, eq_self, not_true_eq_false, not_false_eq_true, ne_eq]; rfl) | (simp [wr, h1]; done)
    · exact ⟨by rw [ht]; exact hP.sub [0] rfl, hD.sub [0] (by decide) rfl⟩
  · -- ¬ i < 0
    refine lv_iload_n hx hb d_SJ_write_4 rfl (lv_at hl 1 rfl) ?_
    refine lv_aload_n hx hb d_SJ_write_5 rfl (lv_at hl 0 rfl) ?_
    refine va_alen (v := (nI n)) hx hb hE.1 hP 0 0 rfl rfl rfl d_SJ_write_6 ?_
    refine lv_icmp_ge (tgt := 14) hx hb d_SJ_write_7 (by decide) (fun h2 => ?_) (fun h2 => ?_)
    · -- (nI n) ≤ i
      refine W.vret hx hb hr (fun t ht hW => ⟨⟨f, rfl, ?_, ?_⟩, hS.F ht⟩) hS.2.2 d_SJ_write_14
      · first | (simp only [wr, h1, h2, if_true, if_false, eq_self, not_true_eq_false, not_false_eq_true, ne_eq]; done) | (simp only [wr, h1, h2, if_true, if_false, eq_self, not_true_eq_false, not_false_eq_true, ne_eq]; rfl) | (simp [wr, h1, h2]; done)
      · exact ⟨by rw [ht]; exact hP.sub [0] rfl, hD.sub [0] (by decide) rfl⟩
    · -- ¬ (nI n) ≤ i
      refine lv_aload_n hx hb d_SJ_write_10 rfl (lv_at hl 0 rfl) ?_
      refine lv_iload_n hx hb d_SJ_write_11 rfl (lv_at hl 1 rfl) ?_
      refine lv_iload_n hx hb d_SJ_write_12 rfl (lv_at hl 2 rfl) ?_
      refine va_iast hx hb hE.1 hP hD hS 0 0 rfl rfl (nI_inr hn h1 h2) d_SJ_write_13 (fun H locs hP hD hS => ?_)
      have hP : va_P D classes [(a, .inl (cI, n, .inl (upd f i.toNatClampNeg v)))] H := hP
      have hD : va_D A [(a, .inl (cI, n, .inl (upd f i.toNatClampNeg v)))] := hD
      refine W.vret hx hb hr (fun t ht hW => ⟨⟨(upd f i.toNatClampNeg v), rfl, ?_, ?_⟩, hS.F ht⟩) hS.2.2 d_SJ_write_14
      · first | (simp only [wr, h1, h2, if_true, if_false, eq_self, not_true_eq_false, not_false_eq_true, ne_eq]; done) | (simp only [wr, h1, h2, if_true, if_false, eq_self, not_true_eq_false, not_false_eq_true, ne_eq]; rfl) | (simp [wr, h1, h2]; done)
      · exact ⟨by rw [ht]; exact hP.sub [0] rfl, hD.sub [0] (by decide) rfl⟩
set_option maxHeartbeats 4000000 in
set_option maxRecDepth 100000 in
theorem c_Op_needs (l : Launch) (D : va_G) (cI cZ : ClassId) (tN tG : Nat) (op kd : Int32) : Met l y_Op_needs w_Op_needs (rmk 1) (va_Pc [.int op, .int kd] (PZ D cI cZ tN tG [])) (vp_Si (fun r => r = o_needs op kd)) 0 0 (fun _ => False) := by
  refine Met.ofW (cc := b_Op_needs) (maxL := 2) (ret := (some .int)) (by decide) rfl ?_
  intro p e s m args below meth c s₁ B hml hv
  obtain ⟨rfl, hP, hE, hZ⟩ := hv
  have hx := B.exec
  have hb := B.bytes
  have hr := B.returns
  have hts : ∀ w ∈ gW, w.before _ s = true := fun w h => atoms_spec (ws := w_Op_needs) B.pre w (List.mem_cons_of_mem _ h)
  have hown : s.vm.findClass R_Op = some m.cls := findClass_of_methodNamed B.named
  have hlocks := B.notSynchronized
  have hS : va_S (fun _ => False) s.heap s.heap [] := va_S.rf
  have hP : va_P D classes [] s.heap := hP
  have hl := lv_entry ([.int op, .int kd]) (n := 2) (Nat.le_of_ble_eq_true rfl)
  rw [lg_entry_eq]
  generalize (lg_sl ([.int op, .int kd]) ++ List.replicate (2 - (lg_sl ([.int op, .int kd])).length) Slot.unset).toArray = ls at hl ⊢
  have hl : lv_has ls 2 [(0, .int op), (1, .int kd)] := hl
  refine lv_iload_n hx hb d_Op_needs_0 rfl (lv_at hl 0 rfl) ?_
  refine lv_bipush (v := 17) hx hb d_Op_needs_1 (by decide) ?_
  refine lv_icmp_ne (tgt := 14) hx hb d_Op_needs_3 (by decide) (fun h1 => ?_) (fun h1 => ?_)
  · -- ¬ op = 17
    refine va_gets hx hb hZ.1 hS hown (hts _ k_210) (fun _ h9 => h9) d_Op_needs_14 ?_
    refine lv_iload_n hx hb d_Op_needs_17 rfl (lv_at hl 0 rfl) ?_
    refine vp_callSi (va_Run.run (va_runSN (As := [.ref tN, .int op]) (rest := []) ⟨hx, hb, hml, hown, hts⟩ (c_SJ_read l tN 19 tNeeds op (by decide)) ⟨va_cnB 2 hts (gd k_177) rfl rfl rfl (hE.2 _ nm_6) (hts _ k_18) (by decide +kernel) ⟨Nat.le_of_ble_eq_true rfl, Nat.le_of_ble_eq_true rfl⟩, hts _ k_176, trivial⟩ (rp_preT hZ.2.1 hS) rfl rfl hl.1 rfl (lv_room (Nat.le_of_ble_eq_true rfl)) d_Op_needs_18 ⟨Nat.zero_le _, Nat.zero_le _⟩)) (fun r hq => ?_)
    subst hq
    refine W.iret hx hb hr (fun t ht hW => ⟨_, rfl, ?_, ht⟩) (fun q h => by cases h) d_Op_needs_21
    show (rd tNeeds 19 op) = o_needs op kd
    first | (simp only [o_needs, h1, if_true, if_false, eq_self, not_true_eq_false, not_false_eq_true, ne_eq]; done) | (simp only [o_needs, h1, if_true, if_false, eq_self, not_true_eq_false, not_false_eq_true, ne_eq]; rfl) | (simp [o_needs, h1]; done)
  · -- op = 17
    refine lv_iload_n hx hb d_Op_needs_6 rfl (lv_at hl 1 rfl) ?_
    refine lv_if_ne (tgt := 14) hx hb d_Op_needs_7 (by decide) (fun h2 => ?_) (fun h2 => ?_)
    · -- ¬ kd = 0
      refine va_gets hx hb hZ.1 hS hown (hts _ k_210) (fun _ h9 => h9) d_Op_needs_14 ?_
      refine lv_iload_n hx hb d_Op_needs_17 rfl (lv_at hl 0 rfl) ?_
      refine vp_callSi (va_Run.run (va_runSN (As := [.ref tN, .int op]) (rest := []) ⟨hx, hb, hml, hown, hts⟩ (c_SJ_read l tN 19 tNeeds op (by decide)) ⟨va_cnB 2 hts (gd k_177) rfl rfl rfl (hE.2 _ nm_6) (hts _ k_18) (by decide +kernel) ⟨Nat.le_of_ble_eq_true rfl, Nat.le_of_ble_eq_true rfl⟩, hts _ k_176, trivial⟩ (rp_preT hZ.2.1 hS) rfl rfl hl.1 rfl (lv_room (Nat.le_of_ble_eq_true rfl)) d_Op_needs_18 ⟨Nat.zero_le _, Nat.zero_le _⟩)) (fun r hq => ?_)
      subst hq
      refine W.iret hx hb hr (fun t ht hW => ⟨_, rfl, ?_, ht⟩) (fun q h => by cases h) d_Op_needs_21
      show (rd tNeeds 19 op) = o_needs op kd
      first | (simp only [o_needs, h1, h2, if_true, if_false, eq_self, not_true_eq_false, not_false_eq_true, ne_eq]; done) | (simp only [o_needs, h1, h2, if_true, if_false, eq_self, not_true_eq_false, not_false_eq_true, ne_eq]; rfl) | (simp [o_needs, h1, h2]; done)
    · -- kd = 0
      refine lv_iconst (v := 0) hx hb d_Op_needs_10 (by decide) ?_
      refine lv_goto (tgt := 21) hx hb d_Op_needs_11 (by decide) ?_
      refine W.iret hx hb hr (fun t ht hW => ⟨_, rfl, ?_, ht⟩) (fun q h => by cases h) d_Op_needs_21
      show 0 = o_needs op kd
      first | (simp only [o_needs, h1, h2, if_true, if_false, eq_self, not_true_eq_false, not_false_eq_true, ne_eq]; done) | (simp only [o_needs, h1, h2, if_true, if_false, eq_self, not_true_eq_false, not_false_eq_true, ne_eq]; rfl) | (simp [o_needs, h1, h2]; done)
set_option maxHeartbeats 4000000 in
set_option maxRecDepth 100000 in
theorem c_Op_growth (l : Launch) (D : va_G) (cI cZ : ClassId) (tN tG : Nat) (op : Int32) : Met l y_Op_growth w_Op_growth (rmk 1) (va_Pc [.int op] (PZ D cI cZ tN tG [])) (vp_Si (fun r => r = o_grow op)) 0 0 (fun _ => False) := by
  refine Met.ofW (cc := b_Op_growth) (maxL := 1) (ret := (some .int)) (by decide) rfl ?_
  intro p e s m args below meth c s₁ B hml hv
  obtain ⟨rfl, hP, hE, hZ⟩ := hv
  have hx := B.exec
  have hb := B.bytes
  have hr := B.returns
  have hts : ∀ w ∈ gW, w.before _ s = true := fun w h => atoms_spec (ws := w_Op_growth) B.pre w (List.mem_cons_of_mem _ h)
  have hown : s.vm.findClass R_Op = some m.cls := findClass_of_methodNamed B.named
  have hlocks := B.notSynchronized
  have hS : va_S (fun _ => False) s.heap s.heap [] := va_S.rf
  have hP : va_P D classes [] s.heap := hP
  have hl := lv_entry ([.int op]) (n := 1) (Nat.le_of_ble_eq_true rfl)
  rw [lg_entry_eq]
  generalize (lg_sl ([.int op]) ++ List.replicate (1 - (lg_sl ([.int op])).length) Slot.unset).toArray = ls at hl ⊢
  have hl : lv_has ls 1 [(0, .int op)] := hl
  refine va_gets hx hb hZ.2.2.1 hS hown (hts _ k_216) (fun _ h9 => h9) d_Op_growth_0 ?_
  refine lv_iload_n hx hb d_Op_growth_3 rfl (lv_at hl 0 rfl) ?_
  refine vp_callSi (va_Run.run (va_runSN (As := [.ref tG, .int op]) (rest := []) ⟨hx, hb, hml, hown, hts⟩ (c_SJ_read l tG 19 tGrow op (by decide)) ⟨va_cnB 2 hts (gd k_177) rfl rfl rfl (hE.2 _ nm_6) (hts _ k_18) (by decide +kernel) ⟨Nat.le_of_ble_eq_true rfl, Nat.le_of_ble_eq_true rfl⟩, hts _ k_176, trivial⟩ (rp_preT hZ.2.2.2 hS) rfl rfl hl.1 rfl (lv_room (Nat.le_of_ble_eq_true rfl)) d_Op_growth_4 ⟨Nat.zero_le _, Nat.zero_le _⟩)) (fun r hq => ?_)
  subst hq
  refine W.iret hx hb hr (fun t ht hW => ⟨_, rfl, ?_, ht⟩) (fun q h => by cases h) d_Op_growth_7
  show (rd tGrow 19 op) = o_grow op
  first | (simp only [o_grow, if_true, if_false, eq_self, not_true_eq_false, not_false_eq_true, ne_eq]; done) | (simp only [o_grow, if_true, if_false, eq_self, not_true_eq_false, not_false_eq_true, ne_eq]; rfl) | (simp [o_grow]; done)
set_option maxHeartbeats 4000000 in
set_option maxRecDepth 100000 in
theorem c_Program_has (l : Launch) (D : va_G) (cI cZ : ClassId) (tN tG : Nat) (pr po pn : Nat) (kd sz ac : Int32) (fo fn : Nat → Int32) (k : Int32) : Met l y_Program_has w_Program_has (rmk 0) (va_Pc [.ref pr, .int k] (PZ D cI cZ tN tG [(pr, .inr (1, [.int kd, .int sz, .int ac, .ref po, .ref pn])), (po, .inl (cI, 64, .inl fo)), (pn, .inl (cI, 64, .inl fn))])) (vp_Si (fun r => r = p_has sz k)) 0 0 (fun _ => False) := by
  refine Met.ofW (cc := b_Program_has) (maxL := 2) (ret := (some .boolean)) (by decide) rfl ?_
  intro p e s m args below meth c s₁ B hml hv
  obtain ⟨rfl, hP, hE, hZ⟩ := hv
  have hx := B.exec
  have hb := B.bytes
  have hr := B.returns
  have hts : ∀ w ∈ gW, w.before _ s = true := fun w h => atoms_spec (ws := w_Program_has) B.pre w (List.mem_cons_of_mem _ h)
  have hown : s.vm.findClass R_Program = some m.cls := findClass_of_methodNamed B.named
  have hlocks := B.notSynchronized
  have hS : va_S (fun _ => False) s.heap s.heap [] := va_S.rf
  have hP : va_P D classes [(pr, .inr (1, [.int kd, .int sz, .int ac, .ref po, .ref pn])), (po, .inl (cI, 64, .inl fo)), (pn, .inl (cI, 64, .inl fn))] s.heap := hP
  have hl := lv_entry ([.ref pr, .int k]) (n := 2) (Nat.le_of_ble_eq_true rfl)
  rw [lg_entry_eq]
  generalize (lg_sl ([.ref pr, .int k]) ++ List.replicate (2 - (lg_sl ([.ref pr, .int k])).length) Slot.unset).toArray = ls at hl ⊢
  have hl : lv_has ls 2 [(0, .ref pr), (1, .int k)] := hl
  refine lv_iload_n hx hb d_Program_has_0 rfl (lv_at hl 1 rfl) ?_
  refine lv_if_lt (tgt := 16) hx hb d_Program_has_1 (by decide) (fun h1 => ?_) (fun h1 => ?_)
  · -- k < 0
    refine lv_iconst (v := 0) hx hb d_Program_has_16 (by decide) ?_
    refine W.zret hx hb hr (by decide) (fun t ht hW => ⟨_, rfl, ?_, ht⟩) (fun q h => by cases h) d_Program_has_17
    show 0 = p_has sz k
    first | (simp only [p_has, h1, if_true, if_false, eq_self, not_true_eq_false, not_false_eq_true, ne_eq]; done) | (simp only [p_has, h1, if_true, if_false, eq_self, not_true_eq_false, not_false_eq_true, ne_eq]; rfl) | (simp [p_has, h1]; done)
  · -- ¬ k < 0
    refine lv_iload_n hx hb d_Program_has_4 rfl (lv_at hl 1 rfl) ?_
    refine lv_aload_n hx hb d_Program_has_5 rfl (lv_at hl 0 rfl) ?_
    refine va_get (D := D) (ci := 1) (v := .int sz) (C := R_Program) (T := F_Program) (N := 5) hx hb hts in_Program hown hE.1 hP 0 rfl rfl 1 (by decide) (hts _ k_42) (fun _ h9 => h9) rfl d_Program_has_6 ?_
    refine lv_icmp_ge (tgt := 16) hx hb d_Program_has_9 (by decide) (fun h2 => ?_) (fun h2 => ?_)
    · -- sz ≤ k
      refine lv_iconst (v := 0) hx hb d_Program_has_16 (by decide) ?_
      refine W.zret hx hb hr (by decide) (fun t ht hW => ⟨_, rfl, ?_, ht⟩) (fun q h => by cases h) d_Program_has_17
      show 0 = p_has sz k
      first | (simp only [p_has, h1, h2, if_true, if_false, eq_self, not_true_eq_false, not_false_eq_true, ne_eq]; done) | (simp only [p_has, h1, h2, if_true, if_false, eq_self, not_true_eq_false, not_false_eq_true, ne_eq]; rfl) | (simp [p_has, h1, h2]; done)
    · -- ¬ sz ≤ k
      refine lv_iconst (v := 1) hx hb d_Program_has_12 (by decide) ?_
      refine lv_goto (tgt := 17) hx hb d_Program_has_13 (by decide) ?_
      refine W.zret hx hb hr (by decide) (fun t ht hW => ⟨_, rfl, ?_, ht⟩) (fun q h => by cases h) d_Program_has_17
      show 1 = p_has sz k
      first | (simp only [p_has, h1, h2, if_true, if_false, eq_self, not_true_eq_false, not_false_eq_true, ne_eq]; done) | (simp only [p_has, h1, h2, if_true, if_false, eq_self, not_true_eq_false, not_false_eq_true, ne_eq]; rfl) | (simp [p_has, h1, h2]; done)
set_option maxHeartbeats 4000000 in
set_option maxRecDepth 100000 in
theorem c_Program_opAt (l : Launch) (D : va_G) (cI cZ : ClassId) (tN tG : Nat) (pr po pn : Nat) (kd sz ac : Int32) (fo fn : Nat → Int32) (k : Int32) : Met l y_Program_opAt w_Program_opAt (rmk 1) (va_Pc [.ref pr, .int k] (PZ D cI cZ tN tG [(pr, .inr (1, [.int kd, .int sz, .int ac, .ref po, .ref pn])), (po, .inl (cI, 64, .inl fo)), (pn, .inl (cI, 64, .inl fn))])) (vp_Si (fun r => r = rd fo 64 k)) 0 0 (fun _ => False) := by
  refine Met.ofW (cc := b_Program_opAt) (maxL := 2) (ret := (some .int)) (by decide) rfl ?_
  intro p e s m args below meth c s₁ B hml hv
  obtain ⟨rfl, hP, hE, hZ⟩ := hv
  have hx := B.exec
  have hb := B.bytes
  have hr := B.returns
  have hts : ∀ w ∈ gW, w.before _ s = true := fun w h => atoms_spec (ws := w_Program_opAt) B.pre w (List.mem_cons_of_mem _ h)
  have hown : s.vm.findClass R_Program = some m.cls := findClass_of_methodNamed B.named
  have hlocks := B.notSynchronized
  have hS : va_S (fun _ => False) s.heap s.heap [] := va_S.rf
  have hP : va_P D classes [(pr, .inr (1, [.int kd, .int sz, .int ac, .ref po, .ref pn])), (po, .inl (cI, 64, .inl fo)), (pn, .inl (cI, 64, .inl fn))] s.heap := hP
  have hl := lv_entry ([.ref pr, .int k]) (n := 2) (Nat.le_of_ble_eq_true rfl)
  rw [lg_entry_eq]
  generalize (lg_sl ([.ref pr, .int k]) ++ List.replicate (2 - (lg_sl ([.ref pr, .int k])).length) Slot.unset).toArray = ls at hl ⊢
  have hl : lv_has ls 2 [(0, .ref pr), (1, .int k)] := hl
  refine lv_aload_n hx hb d_Program_opAt_0 rfl (lv_at hl 0 rfl) ?_
  refine va_get (D := D) (ci := 1) (v := .ref po) (C := R_Program) (T := F_Program) (N := 5) hx hb hts in_Program hown hE.1 hP 0 rfl rfl 3 (by decide) (hts _ k_46) (fun _ h9 => h9) rfl d_Program_opAt_1 ?_
  refine lv_iload_n hx hb d_Program_opAt_4 rfl (lv_at hl 1 rfl) ?_
  refine vp_callSi (va_Run.run (va_runSN (As := [.ref po, .int k]) (rest := []) ⟨hx, hb, hml, hown, hts⟩ (c_SJ_read l po 64 fo k (by decide)) ⟨va_cnB 2 hts (gd k_177) rfl rfl rfl (hE.2 _ nm_5) (hts _ k_18) (by decide +kernel) ⟨Nat.le_of_ble_eq_true rfl, Nat.le_of_ble_eq_true rfl⟩, hts _ k_176, trivial⟩ (rp_pre hE.1 hP 1 0 rfl rfl) rfl rfl hl.1 rfl (lv_room (Nat.le_of_ble_eq_true rfl)) d_Program_opAt_5 ⟨Nat.zero_le _, Nat.zero_le _⟩)) (fun r hq => ?_)
  subst hq
  refine W.iret hx hb hr (fun t ht hW => ⟨_, rfl, ?_, ht⟩) (fun q h => by cases h) d_Program_opAt_8
  show (rd fo 64 k) = rd fo 64 k
  first | (simp only [if_true, if_false, eq_self, not_true_eq_false, not_false_eq_true, ne_eq]; done) | (simp only [if_true, if_false, eq_self, not_true_eq_false, not_false_eq_true, ne_eq]; rfl) | (simp []; done)
set_option maxHeartbeats 4000000 in
set_option maxRecDepth 100000 in
theorem c_Program_nAt (l : Launch) (D : va_G) (cI cZ : ClassId) (tN tG : Nat) (pr po pn : Nat) (kd sz ac : Int32) (fo fn : Nat → Int32) (k : Int32) : Met l y_Program_nAt w_Program_nAt (rmk 1) (va_Pc [.ref pr, .int k] (PZ D cI cZ tN tG [(pr, .inr (1, [.int kd, .int sz, .int ac, .ref po, .ref pn])), (po, .inl (cI, 64, .inl fo)), (pn, .inl (cI, 64, .inl fn))])) (vp_Si (fun r => r = rd fn 64 k)) 0 0 (fun _ => False) := by
  refine Met.ofW (cc := b_Program_nAt) (maxL := 2) (ret := (some .int)) (by decide) rfl ?_
  intro p e s m args below meth c s₁ B hml hv
  obtain ⟨rfl, hP, hE, hZ⟩ := hv
  have hx := B.exec
  have hb := B.bytes
  have hr := B.returns
  have hts : ∀ w ∈ gW, w.before _ s = true := fun w h => atoms_spec (ws := w_Program_nAt) B.pre w (List.mem_cons_of_mem _ h)
  have hown : s.vm.findClass R_Program = some m.cls := findClass_of_methodNamed B.named
  have hlocks := B.notSynchronized
  have hS : va_S (fun _ => False) s.heap s.heap [] := va_S.rf
  have hP : va_P D classes [(pr, .inr (1, [.int kd, .int sz, .int ac, .ref po, .ref pn])), (po, .inl (cI, 64, .inl fo)), (pn, .inl (cI, 64, .inl fn))] s.heap := hP
  have hl := lv_entry ([.ref pr, .int k]) (n := 2) (Nat.le_of_ble_eq_true rfl)
  rw [lg_entry_eq]
  generalize (lg_sl ([.ref pr, .int k]) ++ List.replicate (2 - (lg_sl ([.ref pr, .int k])).length) Slot.unset).toArray = ls at hl ⊢
  have hl : lv_has ls 2 [(0, .ref pr), (1, .int k)] := hl
  refine lv_aload_n hx hb d_Program_nAt_0 rfl (lv_at hl 0 rfl) ?_
  refine va_get (D := D) (ci := 1) (v := .ref pn) (C := R_Program) (T := F_Program) (N := 5) hx hb hts in_Program hown hE.1 hP 0 rfl rfl 4 (by decide) (hts _ k_47) (fun _ h9 => h9) rfl d_Program_nAt_1 ?_
  refine lv_iload_n hx hb d_Program_nAt_4 rfl (lv_at hl 1 rfl) ?_
  refine vp_callSi (va_Run.run (va_runSN (As := [.ref pn, .int k]) (rest := []) ⟨hx, hb, hml, hown, hts⟩ (c_SJ_read l pn 64 fn k (by decide)) ⟨va_cnB 2 hts (gd k_177) rfl rfl rfl (hE.2 _ nm_5) (hts _ k_18) (by decide +kernel) ⟨Nat.le_of_ble_eq_true rfl, Nat.le_of_ble_eq_true rfl⟩, hts _ k_176, trivial⟩ (rp_pre hE.1 hP 2 0 rfl rfl) rfl rfl hl.1 rfl (lv_room (Nat.le_of_ble_eq_true rfl)) d_Program_nAt_5 ⟨Nat.zero_le _, Nat.zero_le _⟩)) (fun r hq => ?_)
  subst hq
  refine W.iret hx hb hr (fun t ht hW => ⟨_, rfl, ?_, ht⟩) (fun q h => by cases h) d_Program_nAt_8
  show (rd fn 64 k) = rd fn 64 k
  first | (simp only [if_true, if_false, eq_self, not_true_eq_false, not_false_eq_true, ne_eq]; done) | (simp only [if_true, if_false, eq_self, not_true_eq_false, not_false_eq_true, ne_eq]; rfl) | (simp []; done)
set_option maxHeartbeats 4000000 in
set_option maxRecDepth 100000 in
theorem c_Program_limitOfN (l : Launch) (D : va_G) (cI cZ : ClassId) (tN tG : Nat) (pr po pn : Nat) (kd sz ac : Int32) (fo fn : Nat → Int32) (op : Int32) : Met l y_Program_limitOfN w_Program_limitOfN (rmk 0) (va_Pc [.ref pr, .int op] (PZ D cI cZ tN tG [(pr, .inr (1, [.int kd, .int sz, .int ac, .ref po, .ref pn])), (po, .inl (cI, 64, .inl fo)), (pn, .inl (cI, 64, .inl fn))])) (vp_Si (fun r => r = p_lim ac sz op)) 0 0 (fun _ => False) := by
  refine Met.ofW (cc := b_Program_limitOfN) (maxL := 2) (ret := (some .int)) (by decide) rfl ?_
  intro p e s m args below meth c s₁ B hml hv
  obtain ⟨rfl, hP, hE, hZ⟩ := hv
  have hx := B.exec
  have hb := B.bytes
  have hr := B.returns
  have hts : ∀ w ∈ gW, w.before _ s = true := fun w h => atoms_spec (ws := w_Program_limitOfN) B.pre w (List.mem_cons_of_mem _ h)
  have hown : s.vm.findClass R_Program = some m.cls := findClass_of_methodNamed B.named
  have hlocks := B.notSynchronized
  have hS : va_S (fun _ => False) s.heap s.heap [] := va_S.rf
  have hP : va_P D classes [(pr, .inr (1, [.int kd, .int sz, .int ac, .ref po, .ref pn])), (po, .inl (cI, 64, .inl fo)), (pn, .inl (cI, 64, .inl fn))] s.heap := hP
  have hl := lv_entry ([.ref pr, .int op]) (n := 2) (Nat.le_of_ble_eq_true rfl)
  rw [lg_entry_eq]
  generalize (lg_sl ([.ref pr, .int op]) ++ List.replicate (2 - (lg_sl ([.ref pr, .int op])).length) Slot.unset).toArray = ls at hl ⊢
  have hl : lv_has ls 2 [(0, .ref pr), (1, .int op)] := hl
  refine lv_iload_n hx hb d_Program_limitOfN_0 rfl (lv_at hl 1 rfl) ?_
  rcases (by omega : (Int32.toInt op < 1 ∨ 15 < Int32.toInt op) ∨ Int32.toInt op = 1 ∨ Int32.toInt op = 2 ∨ Int32.toInt op = 3 ∨ Int32.toInt op = 4 ∨ Int32.toInt op = 5 ∨ Int32.toInt op = 6 ∨ Int32.toInt op = 7 ∨ Int32.toInt op = 8 ∨ Int32.toInt op = 9 ∨ Int32.toInt op = 10 ∨ Int32.toInt op = 11 ∨ Int32.toInt op = 12 ∨ Int32.toInt op = 13 ∨ Int32.toInt op = 14 ∨ Int32.toInt op = 15) with h1 | h1 | h1 | h1 | h1 | h1 | h1 | h1 | h1 | h1 | h1 | h1 | h1 | h1 | h1 | h1
  · -- default
    refine lv_tableOut (tgt := 88) hx hb d_Program_limitOfN_1 h1 (by decide) ?_
    refine lv_iconst (v := (-1)) hx hb d_Program_limitOfN_88 (by decide) ?_
    refine W.iret hx hb hr (fun t ht hW => ⟨_, rfl, ?_, ht⟩) (fun q h => by cases h) d_Program_limitOfN_89
    show (-1) = p_lim ac sz op
    (have g1 := sw_ne (k := 1) h1 (by decide); have g2 := sw_ne (k := 2) h1 (by decide); have g3 := sw_ne (k := 3) h1 (by decide); have g14 := sw_ne (k := 14) h1 (by decide); have g15 := sw_ne (k := 15) h1 (by decide); simp only [p_lim, g1, g2, g3, g14, g15, if_true, if_false, eq_self, not_true_eq_false, not_false_eq_true, ne_eq])
  · -- case 1
    have h1 : op = 1 := Int32.toInt_inj.mp (by rw [h1]; decide)
    subst h1
    refine lv_tableIn (tgt := 76) (off := 75) hx hb d_Program_limitOfN_1 (by decide) (by decide) (by decide +kernel) (by decide) ?_
    refine lv_aload_n hx hb d_Program_limitOfN_76 rfl (lv_at hl 0 rfl) ?_
    refine va_get (D := D) (ci := 1) (v := .int ac) (C := R_Program) (T := F_Program) (N := 5) hx hb hts in_Program hown hE.1 hP 0 rfl rfl 2 (by decide) (hts _ k_45) (fun _ h9 => h9) rfl d_Program_limitOfN_77 ?_
    refine W.iret hx hb hr (fun t ht hW => ⟨_, rfl, ?_, ht⟩) (fun q h => by cases h) d_Program_limitOfN_80
    show ac = p_lim ac sz 1
    rfl
  · -- case 2
    have h1 : op = 2 := Int32.toInt_inj.mp (by rw [h1]; decide)
    subst h1
    refine lv_tableIn (tgt := 81) (off := 80) hx hb d_Program_limitOfN_1 (by decide) (by decide) (by decide +kernel) (by decide) ?_
    refine lv_iconst (v := 4) hx hb d_Program_limitOfN_81 (by decide) ?_
    refine W.iret hx hb hr (fun t ht hW => ⟨_, rfl, ?_, ht⟩) (fun q h => by cases h) d_Program_limitOfN_82
    show 4 = p_lim ac sz 2
    rfl
  · -- case 3
    have h1 : op = 3 := Int32.toInt_inj.mp (by rw [h1]; decide)
    subst h1
    refine lv_tableIn (tgt := 81) (off := 80) hx hb d_Program_limitOfN_1 (by decide) (by decide) (by decide +kernel) (by decide) ?_
    refine lv_iconst (v := 4) hx hb d_Program_limitOfN_81 (by decide) ?_
    refine W.iret hx hb hr (fun t ht hW => ⟨_, rfl, ?_, ht⟩) (fun q h => by cases h) d_Program_limitOfN_82
    show 4 = p_lim ac sz 3
    rfl
  · -- case 4
    have h1 : op = 4 := Int32.toInt_inj.mp (by rw [h1]; decide)
    subst h1
    refine lv_tableIn (tgt := 88) (off := 87) hx hb d_Program_limitOfN_1 (by decide) (by decide) (by decide +kernel) (by decide) ?_
    refine lv_iconst (v := (-1)) hx hb d_Program_limitOfN_88 (by decide) ?_
    refine W.iret hx hb hr (fun t ht hW => ⟨_, rfl, ?_, ht⟩) (fun q h => by cases h) d_Program_limitOfN_89
    show (-1) = p_lim ac sz 4
    rfl
  · -- case 5
    have h1 : op = 5 := Int32.toInt_inj.mp (by rw [h1]; decide)
    subst h1
    refine lv_tableIn (tgt := 88) (off := 87) hx hb d_Program_limitOfN_1 (by decide) (by decide) (by decide +kernel) (by decide) ?_
    refine lv_iconst (v := (-1)) hx hb d_Program_limitOfN_88 (by decide) ?_
    refine W.iret hx hb hr (fun t ht hW => ⟨_, rfl, ?_, ht⟩) (fun q h => by cases h) d_Program_limitOfN_89
    show (-1) = p_lim ac sz 5
    rfl
  · -- case 6
    have h1 : op = 6 := Int32.toInt_inj.mp (by rw [h1]; decide)
    subst h1
    refine lv_tableIn (tgt := 88) (off := 87) hx hb d_Program_limitOfN_1 (by decide) (by decide) (by decide +kernel) (by decide) ?_
    refine lv_iconst (v := (-1)) hx hb d_Program_limitOfN_88 (by decide) ?_
    refine W.iret hx hb hr (fun t ht hW => ⟨_, rfl, ?_, ht⟩) (fun q h => by cases h) d_Program_limitOfN_89
    show (-1) = p_lim ac sz 6
    rfl
  · -- case 7
    have h1 : op = 7 := Int32.toInt_inj.mp (by rw [h1]; decide)
    subst h1
    refine lv_tableIn (tgt := 88) (off := 87) hx hb d_Program_limitOfN_1 (by decide) (by decide) (by decide +kernel) (by decide) ?_
    refine lv_iconst (v := (-1)) hx hb d_Program_limitOfN_88 (by decide) ?_
    refine W.iret hx hb hr (fun t ht hW => ⟨_, rfl, ?_, ht⟩) (fun q h => by cases h) d_Program_limitOfN_89
    show (-1) = p_lim ac sz 7
    rfl
  · -- case 8
    have h1 : op = 8 := Int32.toInt_inj.mp (by rw [h1]; decide)
    subst h1
    refine lv_tableIn (tgt := 88) (off := 87) hx hb d_Program_limitOfN_1 (by decide) (by decide) (by decide +kernel) (by decide) ?_
    refine lv_iconst (v := (-1)) hx hb d_Program_limitOfN_88 (by decide) ?_
    refine W.iret hx hb hr (fun t ht hW => ⟨_, rfl, ?_, ht⟩) (fun q h => by cases h) d_Program_limitOfN_89
    show (-1) = p_lim ac sz 8
    rfl
  · -- case 9
    have h1 : op = 9 := Int32.toInt_inj.mp (by rw [h1]; decide)
    subst h1
    refine lv_tableIn (tgt := 88) (off := 87) hx hb d_Program_limitOfN_1 (by decide) (by decide) (by decide +kernel) (by decide) ?_
    refine lv_iconst (v := (-1)) hx hb d_Program_limitOfN_88 (by decide) ?_
    refine W.iret hx hb hr (fun t ht hW => ⟨_, rfl, ?_, ht⟩) (fun q h => by cases h) d_Program_limitOfN_89
    show (-1) = p_lim ac sz 9
    rfl
  · -- case 10
    have h1 : op = 10 := Int32.toInt_inj.mp (by rw [h1]; decide)
    subst h1
    refine lv_tableIn (tgt := 88) (off := 87) hx hb d_Program_limitOfN_1 (by decide) (by decide) (by decide +kernel) (by decide) ?_
    refine lv_iconst (v := (-1)) hx hb d_Program_limitOfN_88 (by decide) ?_
    refine W.iret hx hb hr (fun t ht hW => ⟨_, rfl, ?_, ht⟩) (fun q h => by cases h) d_Program_limitOfN_89
    show (-1) = p_lim ac sz 10
    rfl
  · -- case 11
    have h1 : op = 11 := Int32.toInt_inj.mp (by rw [h1]; decide)
    subst h1
    refine lv_tableIn (tgt := 88) (off := 87) hx hb d_Program_limitOfN_1 (by decide) (by decide) (by decide +kernel) (by decide) ?_
    refine lv_iconst (v := (-1)) hx hb d_Program_limitOfN_88 (by decide) ?_
    refine W.iret hx hb hr (fun t ht hW => ⟨_, rfl, ?_, ht⟩) (fun q h => by cases h) d_Program_limitOfN_89
    show (-1) = p_lim ac sz 11
    rfl
  · -- case 12
    have h1 : op = 12 := Int32.toInt_inj.mp (by rw [h1]; decide)
    subst h1
    refine lv_tableIn (tgt := 88) (off := 87) hx hb d_Program_limitOfN_1 (by decide) (by decide) (by decide +kernel) (by decide) ?_
    refine lv_iconst (v := (-1)) hx hb d_Program_limitOfN_88 (by decide) ?_
    refine W.iret hx hb hr (fun t ht hW => ⟨_, rfl, ?_, ht⟩) (fun q h => by cases h) d_Program_limitOfN_89
    show (-1) = p_lim ac sz 12
    rfl
  · -- case 13
    have h1 : op = 13 := Int32.toInt_inj.mp (by rw [h1]; decide)
    subst h1
    refine lv_tableIn (tgt := 88) (off := 87) hx hb d_Program_limitOfN_1 (by decide) (by decide) (by decide +kernel) (by decide) ?_
    refine lv_iconst (v := (-1)) hx hb d_Program_limitOfN_88 (by decide) ?_
    refine W.iret hx hb hr (fun t ht hW => ⟨_, rfl, ?_, ht⟩) (fun q h => by cases h) d_Program_limitOfN_89
    show (-1) = p_lim ac sz 13
    rfl
  · -- case 14
    have h1 : op = 14 := Int32.toInt_inj.mp (by rw [h1]; decide)
    subst h1
    refine lv_tableIn (tgt := 83) (off := 82) hx hb d_Program_limitOfN_1 (by decide) (by decide) (by decide +kernel) (by decide) ?_
    refine lv_aload_n hx hb d_Program_limitOfN_83 rfl (lv_at hl 0 rfl) ?_
    refine va_get (D := D) (ci := 1) (v := .int sz) (C := R_Program) (T := F_Program) (N := 5) hx hb hts in_Program hown hE.1 hP 0 rfl rfl 1 (by decide) (hts _ k_42) (fun _ h9 => h9) rfl d_Program_limitOfN_84 ?_
    refine W.iret hx hb hr (fun t ht hW => ⟨_, rfl, ?_, ht⟩) (fun q h => by cases h) d_Program_limitOfN_87
    show sz = p_lim ac sz 14
    rfl
  · -- case 15
    have h1 : op = 15 := Int32.toInt_inj.mp (by rw [h1]; decide)
    subst h1
    refine lv_tableIn (tgt := 83) (off := 82) hx hb d_Program_limitOfN_1 (by decide) (by decide) (by decide +kernel) (by decide) ?_
    refine lv_aload_n hx hb d_Program_limitOfN_83 rfl (lv_at hl 0 rfl) ?_
    refine va_get (D := D) (ci := 1) (v := .int sz) (C := R_Program) (T := F_Program) (N := 5) hx hb hts in_Program hown hE.1 hP 0 rfl rfl 1 (by decide) (hts _ k_42) (fun _ h9 => h9) rfl d_Program_limitOfN_84 ?_
    refine W.iret hx hb hr (fun t ht hW => ⟨_, rfl, ?_, ht⟩) (fun q h => by cases h) d_Program_limitOfN_87
    show sz = p_lim ac sz 15
    rfl
set_option maxHeartbeats 4000000 in
set_option maxRecDepth 100000 in
theorem c_Program_isWellFormed (l : Launch) (D : va_G) (cI cZ : ClassId) (tN tG : Nat) (pr po pn : Nat) (kd sz ac : Int32) (fo fn : Nat → Int32) (k : Int32) : Met l y_Program_isWellFormed w_Program_isWellFormed (rmk 1) (va_Pc [.ref pr, .int k] (PZ D cI cZ tN tG [(pr, .inr (1, [.int kd, .int sz, .int ac, .ref po, .ref pn])), (po, .inl (cI, 64, .inl fo)), (pn, .inl (cI, 64, .inl fn))])) (vp_Si (fun r => r = p_wf kd sz ac fo fn k)) 0 0 (fun _ => False) := by
  refine Met.ofW (cc := b_Program_isWellFormed) (maxL := 5) (ret := (some .boolean)) (by decide) rfl ?_
  intro p e s m args below meth c s₁ B hml hv
  obtain ⟨rfl, hP, hE, hZ⟩ := hv
  have hx := B.exec
  have hb := B.bytes
  have hr := B.returns
  have hts : ∀ w ∈ gW, w.before _ s = true := fun w h => atoms_spec (ws := w_Program_isWellFormed) B.pre w (List.mem_cons_of_mem _ h)
  have hown : s.vm.findClass R_Program = some m.cls := findClass_of_methodNamed B.named
  have hlocks := B.notSynchronized
  have hS : va_S (fun _ => False) s.heap s.heap [] := va_S.rf
  have hP : va_P D classes [(pr, .inr (1, [.int kd, .int sz, .int ac, .ref po, .ref pn])), (po, .inl (cI, 64, .inl fo)), (pn, .inl (cI, 64, .inl fn))] s.heap := hP
  have hl := lv_entry ([.ref pr, .int k]) (n := 5) (Nat.le_of_ble_eq_true rfl)
  rw [lg_entry_eq]
  generalize (lg_sl ([.ref pr, .int k]) ++ List.replicate (5 - (lg_sl ([.ref pr, .int k])).length) Slot.unset).toArray = ls at hl ⊢
  have hl : lv_has ls 5 [(0, .ref pr), (1, .int k)] := hl
  refine lv_aload_n hx hb d_Program_isWellFormed_0 rfl (lv_at hl 0 rfl) ?_
  refine va_get (D := D) (ci := 1) (v := .ref po) (C := R_Program) (T := F_Program) (N := 5) hx hb hts in_Program hown hE.1 hP 0 rfl rfl 3 (by decide) (hts _ k_46) (fun _ h9 => h9) rfl d_Program_isWellFormed_1 ?_
  refine lv_iload_n hx hb d_Program_isWellFormed_4 rfl (lv_at hl 1 rfl) ?_
  refine vp_callSi (va_Run.run (va_runSN (As := [.ref po, .int k]) (rest := []) ⟨hx, hb, hml, hown, hts⟩ (c_SJ_read l po 64 fo k (by decide)) ⟨va_cnB 2 hts (gd k_177) rfl rfl rfl (hE.2 _ nm_5) (hts _ k_18) (by decide +kernel) ⟨Nat.le_of_ble_eq_true rfl, Nat.le_of_ble_eq_true rfl⟩, hts _ k_176, trivial⟩ (rp_pre hE.1 hP 1 0 rfl rfl) rfl rfl hl.1 rfl (lv_room (Nat.le_of_ble_eq_true rfl)) d_Program_isWellFormed_5 ⟨Nat.zero_le _, Nat.zero_le _⟩)) (fun r hq => ?_)
  subst hq
  refine lv_istore_n hx hb d_Program_isWellFormed_8 rfl hl (by decide) rfl (fun ls hl => ?_)
  have hl : lv_has ls 5 [(2, .int (rd fo 64 k)), (0, .ref pr), (1, .int k)] := hl
  refine lv_aload_n hx hb d_Program_isWellFormed_9 rfl (lv_at hl 1 rfl) ?_
  refine va_get (D := D) (ci := 1) (v := .ref pn) (C := R_Program) (T := F_Program) (N := 5) hx hb hts in_Program hown hE.1 hP 0 rfl rfl 4 (by decide) (hts _ k_47) (fun _ h9 => h9) rfl d_Program_isWellFormed_10 ?_
  refine lv_iload_n hx hb d_Program_isWellFormed_13 rfl (lv_at hl 2 rfl) ?_
  refine vp_callSi (va_Run.run (va_runSN (As := [.ref pn, .int k]) (rest := []) ⟨hx, hb, hml, hown, hts⟩ (c_SJ_read l pn 64 fn k (by decide)) ⟨va_cnB 2 hts (gd k_177) rfl rfl rfl (hE.2 _ nm_5) (hts _ k_18) (by decide +kernel) ⟨Nat.le_of_ble_eq_true rfl, Nat.le_of_ble_eq_true rfl⟩, hts _ k_176, trivial⟩ (rp_pre hE.1 hP 2 0 rfl rfl) rfl rfl hl.1 rfl (lv_room (Nat.le_of_ble_eq_true rfl)) d_Program_isWellFormed_14 ⟨Nat.zero_le _, Nat.zero_le _⟩)) (fun r hq => ?_)
  subst hq
  refine lv_istore_n hx hb d_Program_isWellFormed_17 rfl hl (by decide) rfl (fun ls hl => ?_)
  have hl : lv_has ls 5 [(3, .int (rd fn 64 k)), (2, .int (rd fo 64 k)), (0, .ref pr), (1, .int k)] := hl
  refine lv_aload_n hx hb d_Program_isWellFormed_18 rfl (lv_at hl 2 rfl) ?_
  refine lv_iload_n hx hb d_Program_isWellFormed_19 rfl (lv_at hl 1 rfl) ?_
  refine vp_callSi (va_Run.run (va_runV (As := [.int (rd fo 64 k)]) (rest := []) ⟨hx, hb, hml, hown, hts⟩ (c_Program_limitOfN l D cI cZ tN tG pr po pn kd sz ac fo fn (rd fo 64 k)) (cwV 1 hts (gd4 k_196 k_198 k_3 k_19 k_199) rfl rfl rfl (by decide +kernel) ⟨Nat.le_of_ble_eq_true rfl, Nat.le_of_ble_eq_true rfl⟩) ⟨PZ_blind, va_recv (q0 := 0) (ci := 1) hE.1 hP rfl rfl, pz_pre hE hZ hS (hP.sub [0, 1, 2] rfl)⟩ rfl rfl hl.1 rfl (lv_room (Nat.le_of_ble_eq_true rfl)) d_Program_isWellFormed_20 ⟨Nat.zero_le _, Nat.zero_le _⟩)) (fun r hq => ?_)
  subst hq
  refine lv_istore hx hb d_Program_isWellFormed_23 hl (by decide) rfl (fun ls hl => ?_)
  have hl : lv_has ls 5 [(4, .int (p_lim ac sz (rd fo 64 k))), (3, .int (rd fn 64 k)), (2, .int (rd fo 64 k)), (0, .ref pr), (1, .int k)] := hl
  refine lv_iload_n hx hb d_Program_isWellFormed_25 rfl (lv_at hl 2 rfl) ?_
  refine lv_aload_n hx hb d_Program_isWellFormed_26 rfl (lv_at hl 3 rfl) ?_
  refine va_get (D := D) (ci := 1) (v := .int kd) (C := R_Program) (T := F_Program) (N := 5) hx hb hts in_Program hown hE.1 hP 0 rfl rfl 0 (by decide) (hts _ k_40) (fun _ h9 => h9) rfl d_Program_isWellFormed_27 ?_
  refine vp_callSi (va_Run.run (va_runS (As := [.int (rd fo 64 k), .int kd]) (rest := []) ⟨hx, hb, hml, hown, hts⟩ (c_Op_isOf l (rd fo 64 k) kd) (va_cwS 2 hts (gd3 k_200 k_201 k_24 k_202) rfl rfl rfl (by decide +kernel) ⟨Nat.le_of_ble_eq_true rfl, Nat.le_of_ble_eq_true rfl⟩) ⟨fun _ _ _ _ q => q, fun _ _ _ => ⟨rfl, trivial⟩⟩ rfl rfl hl.1 rfl (lv_room (Nat.le_of_ble_eq_true rfl)) d_Program_isWellFormed_30 ⟨Nat.zero_le _, Nat.zero_le _⟩)) (fun r hq => ?_)
  subst hq
  refine lv_if_eq (tgt := 56) hx hb d_Program_isWellFormed_33 (by decide) (fun h1 => ?_) (fun h1 => ?_)
  · -- (o_isOf (rd fo 64 k) kd) = 0
    refine lv_iconst (v := 0) hx hb d_Program_isWellFormed_56 (by decide) ?_
    refine W.zret hx hb hr (by decide) (fun t ht hW => ⟨_, rfl, ?_, ht⟩) (fun q h => by cases h) d_Program_isWellFormed_57
    show 0 = p_wf kd sz ac fo fn k
    first | (simp only [p_wf, h1, if_true, if_false, eq_self, not_true_eq_false, not_false_eq_true, ne_eq]; done) | (simp only [p_wf, h1, if_true, if_false, eq_self, not_true_eq_false, not_false_eq_true, ne_eq]; rfl) | (simp [p_wf, h1]; done)
  · -- ¬ (o_isOf (rd fo 64 k) kd) = 0
    refine lv_iload hx hb d_Program_isWellFormed_36 (lv_at hl 0 rfl) ?_
    refine lv_iconst (v := (-1)) hx hb d_Program_isWellFormed_38 (by decide) ?_
    refine lv_icmp_eq (tgt := 52) hx hb d_Program_isWellFormed_39 (by decide) (fun h2 => ?_) (fun h2 => ?_)
    · -- (p_lim ac sz (rd fo 64 k)) = (-1)
      refine lv_iconst (v := 1) hx hb d_Program_isWellFormed_52 (by decide) ?_
      refine lv_goto (tgt := 57) hx hb d_Program_isWellFormed_53 (by decide) ?_
      refine W.zret hx hb hr (by decide) (fun t ht hW => ⟨_, rfl, ?_, ht⟩) (fun q h => by cases h) d_Program_isWellFormed_57
      show 1 = p_wf kd sz ac fo fn k
      first | (simp only [p_wf, h1, h2, if_true, if_false, eq_self, not_true_eq_false, not_false_eq_true, ne_eq]; done) | (simp only [p_wf, h1, h2, if_true, if_false, eq_self, not_true_eq_false, not_false_eq_true, ne_eq]; rfl) | (simp [p_wf, h1, h2]; done)
    · -- ¬ (p_lim ac sz (rd fo 64 k)) = (-1)
      refine lv_iload_n hx hb d_Program_isWellFormed_42 rfl (lv_at hl 1 rfl) ?_
      refine lv_if_lt (tgt := 56) hx hb d_Program_isWellFormed_43 (by decide) (fun h3 => ?_) (fun h3 => ?_)
      · -- (rd fn 64 k) < 0
        refine lv_iconst (v := 0) hx hb d_Program_isWellFormed_56 (by decide) ?_
        refine W.zret hx hb hr (by decide) (fun t ht hW => ⟨_, rfl, ?_, ht⟩) (fun q h => by cases h) d_Program_isWellFormed_57
        show 0 = p_wf kd sz ac fo fn k
        first | (simp only [p_wf, h1, h2, h3, if_true, if_false, eq_self, not_true_eq_false, not_false_eq_true, ne_eq]; done) | (simp only [p_wf, h1, h2, h3, if_true, if_false, eq_self, not_true_eq_false, not_false_eq_true, ne_eq]; rfl) | (simp [p_wf, h1, h2, h3]; done)
      · -- ¬ (rd fn 64 k) < 0
        refine lv_iload_n hx hb d_Program_isWellFormed_46 rfl (lv_at hl 1 rfl) ?_
        refine lv_iload hx hb d_Program_isWellFormed_47 (lv_at hl 0 rfl) ?_
        refine lv_icmp_ge (tgt := 56) hx hb d_Program_isWellFormed_49 (by decide) (fun h4 => ?_) (fun h4 => ?_)
        · -- (p_lim ac sz (rd fo 64 k)) ≤ (rd fn 64 k)
          refine lv_iconst (v := 0) hx hb d_Program_isWellFormed_56 (by decide) ?_
          refine W.zret hx hb hr (by decide) (fun t ht hW => ⟨_, rfl, ?_, ht⟩) (fun q h => by cases h) d_Program_isWellFormed_57
          show 0 = p_wf kd sz ac fo fn k
          first | (simp only [p_wf, h1, h2, h3, h4, if_true, if_false, eq_self, not_true_eq_false, not_false_eq_true, ne_eq]; done) | (simp only [p_wf, h1, h2, h3, h4, if_true, if_false, eq_self, not_true_eq_false, not_false_eq_true, ne_eq]; rfl) | (simp [p_wf, h1, h2, h3, h4]; done)
        · -- ¬ (p_lim ac sz (rd fo 64 k)) ≤ (rd fn 64 k)
          refine lv_iconst (v := 1) hx hb d_Program_isWellFormed_52 (by decide) ?_
          refine lv_goto (tgt := 57) hx hb d_Program_isWellFormed_53 (by decide) ?_
          refine W.zret hx hb hr (by decide) (fun t ht hW => ⟨_, rfl, ?_, ht⟩) (fun q h => by cases h) d_Program_isWellFormed_57
          show 1 = p_wf kd sz ac fo fn k
          first | (simp only [p_wf, h1, h2, h3, h4, if_true, if_false, eq_self, not_true_eq_false, not_false_eq_true, ne_eq]; done) | (simp only [p_wf, h1, h2, h3, h4, if_true, if_false, eq_self, not_true_eq_false, not_false_eq_true, ne_eq]; rfl) | (simp [p_wf, h1, h2, h3, h4]; done)
set_option maxHeartbeats 4000000 in
set_option maxRecDepth 100000 in
theorem c_Program_canBeDone (l : Launch) (D : va_G) (cI cZ : ClassId) (tN tG : Nat) (pr po pn : Nat) (kd sz ac : Int32) (fo fn : Nat → Int32) (k h : Int32) : Met l y_Program_canBeDone w_Program_canBeDone (rmk 2) (va_Pc [.ref pr, .int k, .int h] (PZ D cI cZ tN tG [(pr, .inr (1, [.int kd, .int sz, .int ac, .ref po, .ref pn])), (po, .inl (cI, 64, .inl fo)), (pn, .inl (cI, 64, .inl fn))])) (vp_Si (fun r => r = p_cbd kd sz ac fo fn k h)) 0 0 (fun _ => False) := by
  refine Met.ofW (cc := b_Program_canBeDone) (maxL := 4) (ret := (some .boolean)) (by decide) rfl ?_
  intro p e s m args below meth c s₁ B hml hv
  obtain ⟨rfl, hP, hE, hZ⟩ := hv
  have hx := B.exec
  have hb := B.bytes
  have hr := B.returns
  have hts : ∀ w ∈ gW, w.before _ s = true := fun w h => atoms_spec (ws := w_Program_canBeDone) B.pre w (List.mem_cons_of_mem _ h)
  have hown : s.vm.findClass R_Program = some m.cls := findClass_of_methodNamed B.named
  have hlocks := B.notSynchronized
  have hS : va_S (fun _ => False) s.heap s.heap [] := va_S.rf
  have hP : va_P D classes [(pr, .inr (1, [.int kd, .int sz, .int ac, .ref po, .ref pn])), (po, .inl (cI, 64, .inl fo)), (pn, .inl (cI, 64, .inl fn))] s.heap := hP
  have hl := lv_entry ([.ref pr, .int k, .int h]) (n := 4) (Nat.le_of_ble_eq_true rfl)
  rw [lg_entry_eq]
  generalize (lg_sl ([.ref pr, .int k, .int h]) ++ List.replicate (4 - (lg_sl ([.ref pr, .int k, .int h])).length) Slot.unset).toArray = ls at hl ⊢
  have hl : lv_has ls 4 [(0, .ref pr), (1, .int k), (2, .int h)] := hl
  refine lv_aload_n hx hb d_Program_canBeDone_0 rfl (lv_at hl 0 rfl) ?_
  refine lv_iload_n hx hb d_Program_canBeDone_1 rfl (lv_at hl 1 rfl) ?_
  refine vp_callSi (va_Run.run (va_runV (As := [.int k]) (rest := []) ⟨hx, hb, hml, hown, hts⟩ (c_Program_opAt l D cI cZ tN tG pr po pn kd sz ac fo fn k) (cwV 1 hts (gd4 k_187 k_188 k_189 k_19 k_190) rfl rfl rfl (by decide +kernel) ⟨Nat.le_of_ble_eq_true rfl, Nat.le_of_ble_eq_true rfl⟩) ⟨PZ_blind, va_recv (q0 := 0) (ci := 1) hE.1 hP rfl rfl, pz_pre hE hZ hS (hP.sub [0, 1, 2] rfl)⟩ rfl rfl hl.1 rfl (lv_room (Nat.le_of_ble_eq_true rfl)) d_Program_canBeDone_2 ⟨Nat.zero_le _, Nat.zero_le _⟩)) (fun r hq => ?_)
  subst hq
  refine lv_istore_n hx hb d_Program_canBeDone_5 rfl hl (by decide) rfl (fun ls hl => ?_)
  have hl : lv_has ls 4 [(3, .int (rd fo 64 k)), (0, .ref pr), (1, .int k), (2, .int h)] := hl
  refine lv_aload_n hx hb d_Program_canBeDone_6 rfl (lv_at hl 1 rfl) ?_
  refine lv_iload_n hx hb d_Program_canBeDone_7 rfl (lv_at hl 2 rfl) ?_
  refine vp_callSi (va_Run.run (va_runV (As := [.int k]) (rest := []) ⟨hx, hb, hml, hown, hts⟩ (c_Program_isWellFormed l D cI cZ tN tG pr po pn kd sz ac fo fn k) (cwV 1 hts (gd4 k_192 k_193 k_194 k_19 k_195) rfl rfl rfl (by decide +kernel) ⟨Nat.le_of_ble_eq_true rfl, Nat.le_of_ble_eq_true rfl⟩) ⟨PZ_blind, va_recv (q0 := 0) (ci := 1) hE.1 hP rfl rfl, pz_pre hE hZ hS (hP.sub [0, 1, 2] rfl)⟩ rfl rfl hl.1 rfl (lv_room (Nat.le_of_ble_eq_true rfl)) d_Program_canBeDone_8 ⟨Nat.zero_le _, Nat.zero_le _⟩)) (fun r hq => ?_)
  subst hq
  refine lv_if_eq (tgt := 31) hx hb d_Program_canBeDone_11 (by decide) (fun h1 => ?_) (fun h1 => ?_)
  · -- (p_wf kd sz ac fo fn k) = 0
    refine lv_iconst (v := 0) hx hb d_Program_canBeDone_31 (by decide) ?_
    refine W.zret hx hb hr (by decide) (fun t ht hW => ⟨_, rfl, ?_, ht⟩) (fun q h => by cases h) d_Program_canBeDone_32
    show 0 = p_cbd kd sz ac fo fn k h
    first | (simp only [p_cbd, p_fit, h1, if_true, if_false, eq_self, not_true_eq_false, not_false_eq_true, ne_eq]; done) | (simp only [p_cbd, p_fit, h1, if_true, if_false, eq_self, not_true_eq_false, not_false_eq_true, ne_eq]; rfl) | (simp [p_cbd, p_fit, h1]; done)
  · -- ¬ (p_wf kd sz ac fo fn k) = 0
    refine lv_iload_n hx hb d_Program_canBeDone_14 rfl (lv_at hl 0 rfl) ?_
    refine vp_callSi (va_Run.run (va_runS (As := [.int (rd fo 64 k)]) (rest := []) ⟨hx, hb, hml, hown, hts⟩ (c_Op_hasNext l (rd fo 64 k)) (va_cwS 1 hts (gd3 k_203 k_204 k_24 k_205) rfl rfl rfl (by decide +kernel) ⟨Nat.le_of_ble_eq_true rfl, Nat.le_of_ble_eq_true rfl⟩) ⟨fun _ _ _ _ q => q, fun _ _ _ => ⟨rfl, trivial⟩⟩ rfl rfl hl.1 rfl (lv_room (Nat.le_of_ble_eq_true rfl)) d_Program_canBeDone_15 ⟨Nat.zero_le _, Nat.zero_le _⟩)) (fun r hq => ?_)
    subst hq
    refine lv_if_eq (tgt := 33) hx hb d_Program_canBeDone_18 (by decide) (fun h2 => ?_) (fun h2 => ?_)
    · -- (o_next (rd fo 64 k)) = 0
      refine lv_iload_n hx hb d_Program_canBeDone_33 rfl (lv_at hl 3 rfl) ?_
      refine lv_iload_n hx hb d_Program_canBeDone_34 rfl (lv_at hl 0 rfl) ?_
      refine lv_aload_n hx hb d_Program_canBeDone_35 rfl (lv_at hl 1 rfl) ?_
      refine va_get (D := D) (ci := 1) (v := .int kd) (C := R_Program) (T := F_Program) (N := 5) hx hb hts in_Program hown hE.1 hP 0 rfl rfl 0 (by decide) (hts _ k_40) (fun _ h9 => h9) rfl d_Program_canBeDone_36 ?_
      refine vp_callSi (va_Run.run (va_runS (As := [.int (rd fo 64 k), .int kd]) (rest := [.int h]) ⟨hx, hb, hml, hown, hts⟩ (c_Op_needs l D cI cZ tN tG (rd fo 64 k) kd) (va_cwS 2 hts (gd3 k_207 k_208 k_24 k_209) rfl rfl rfl (by decide +kernel) ⟨Nat.le_of_ble_eq_true rfl, Nat.le_of_ble_eq_true rfl⟩) ⟨PZ_blind, pz_pre hE hZ hS (hP.sub [] rfl)⟩ rfl rfl hl.1 rfl (lv_room (Nat.le_of_ble_eq_true rfl)) d_Program_canBeDone_39 ⟨Nat.zero_le _, Nat.zero_le _⟩)) (fun r hq => ?_)
      subst hq
      refine lv_icmp_lt (tgt := 60) hx hb d_Program_canBeDone_42 (by decide) (fun h3 => ?_) (fun h3 => ?_)
      · -- h < (o_needs (rd fo 64 k) kd)
        refine lv_iconst (v := 0) hx hb d_Program_canBeDone_60 (by decide) ?_
        refine W.zret hx hb hr (by decide) (fun t ht hW => ⟨_, rfl, ?_, ht⟩) (fun q h => by cases h) d_Program_canBeDone_61
        show 0 = p_cbd kd sz ac fo fn k h
        first | (simp only [p_cbd, p_fit, h1, h2, h3, if_true, if_false, eq_self, not_true_eq_false, not_false_eq_true, ne_eq]; done) | (simp only [p_cbd, p_fit, h1, h2, h3, if_true, if_false, eq_self, not_true_eq_false, not_false_eq_true, ne_eq]; rfl) | (simp [p_cbd, p_fit, h1, h2, h3]; done)
      · -- ¬ h < (o_needs (rd fo 64 k) kd)
        refine lv_iload_n hx hb d_Program_canBeDone_45 rfl (lv_at hl 3 rfl) ?_
        refine lv_iload_n hx hb d_Program_canBeDone_46 rfl (lv_at hl 0 rfl) ?_
        refine vp_callSi (va_Run.run (va_runS (As := [.int (rd fo 64 k)]) (rest := [.int h]) ⟨hx, hb, hml, hown, hts⟩ (c_Op_growth l D cI cZ tN tG (rd fo 64 k)) (va_cwS 1 hts (gd3 k_213 k_214 k_24 k_215) rfl rfl rfl (by decide +kernel) ⟨Nat.le_of_ble_eq_true rfl, Nat.le_of_ble_eq_true rfl⟩) ⟨PZ_blind, pz_pre hE hZ hS (hP.sub [] rfl)⟩ rfl rfl hl.1 rfl (lv_room (Nat.le_of_ble_eq_true rfl)) d_Program_canBeDone_47 ⟨Nat.zero_le _, Nat.zero_le _⟩)) (fun r hq => ?_)
        subst hq
        refine lv_iadd hx hb d_Program_canBeDone_50 ?_
        refine lv_bipush (v := 8) hx hb d_Program_canBeDone_51 (by decide) ?_
        refine lv_icmp_gt (tgt := 60) hx hb d_Program_canBeDone_53 (by decide) (fun h4 => ?_) (fun h4 => ?_)
        · -- 8 < (h + (o_grow (rd fo 64 k)))
          refine lv_iconst (v := 0) hx hb d_Program_canBeDone_60 (by decide) ?_
          refine W.zret hx hb hr (by decide) (fun t ht hW => ⟨_, rfl, ?_, ht⟩) (fun q h => by cases h) d_Program_canBeDone_61
          show 0 = p_cbd kd sz ac fo fn k h
          first | (simp only [p_cbd, p_fit, h1, h2, h3, h4, if_true, if_false, eq_self, not_true_eq_false, not_false_eq_true, ne_eq]; done) | (simp only [p_cbd, p_fit, h1, h2, h3, h4, if_true, if_false, eq_self, not_true_eq_false, not_false_eq_true, ne_eq]; rfl) | (simp [p_cbd, p_fit, h1, h2, h3, h4]; done)
        · -- ¬ 8 < (h + (o_grow (rd fo 64 k)))
          refine lv_iconst (v := 1) hx hb d_Program_canBeDone_56 (by decide) ?_
          refine lv_goto (tgt := 61) hx hb d_Program_canBeDone_57 (by decide) ?_
          refine W.zret hx hb hr (by decide) (fun t ht hW => ⟨_, rfl, ?_, ht⟩) (fun q h => by cases h) d_Program_canBeDone_61
          show 1 = p_cbd kd sz ac fo fn k h
          first | (simp only [p_cbd, p_fit, h1, h2, h3, h4, if_true, if_false, eq_self, not_true_eq_false, not_false_eq_true, ne_eq]; done) | (simp only [p_cbd, p_fit, h1, h2, h3, h4, if_true, if_false, eq_self, not_true_eq_false, not_false_eq_true, ne_eq]; rfl) | (simp [p_cbd, p_fit, h1, h2, h3, h4]; done)
    · -- ¬ (o_next (rd fo 64 k)) = 0
      refine lv_aload_n hx hb d_Program_canBeDone_21 rfl (lv_at hl 1 rfl) ?_
      refine lv_iload_n hx hb d_Program_canBeDone_22 rfl (lv_at hl 2 rfl) ?_
      refine lv_iconst (v := 1) hx hb d_Program_canBeDone_23 (by decide) ?_
      refine lv_iadd hx hb d_Program_canBeDone_24 ?_
      refine vp_callSi (va_Run.run (va_runV (As := [.int (k + 1)]) (rest := []) ⟨hx, hb, hml, hown, hts⟩ (c_Program_has l D cI cZ tN tG pr po pn kd sz ac fo fn (k + 1)) (cwV 1 hts (gd4 k_206 k_168 k_169 k_19 k_170) rfl rfl rfl (by decide +kernel) ⟨Nat.le_of_ble_eq_true rfl, Nat.le_of_ble_eq_true rfl⟩) ⟨PZ_blind, va_recv (q0 := 0) (ci := 1) hE.1 hP rfl rfl, pz_pre hE hZ hS (hP.sub [0, 1, 2] rfl)⟩ rfl rfl hl.1 rfl (lv_room (Nat.le_of_ble_eq_true rfl)) d_Program_canBeDone_25 ⟨Nat.zero_le _, Nat.zero_le _⟩)) (fun r hq => ?_)
      subst hq
      refine lv_if_ne (tgt := 33) hx hb d_Program_canBeDone_28 (by decide) (fun h5 => ?_) (fun h5 => ?_)
      · -- ¬ (p_has sz (k + 1)) = 0
        refine lv_iload_n hx hb d_Program_canBeDone_33 rfl (lv_at hl 3 rfl) ?_
        refine lv_iload_n hx hb d_Program_canBeDone_34 rfl (lv_at hl 0 rfl) ?_
        refine lv_aload_n hx hb d_Program_canBeDone_35 rfl (lv_at hl 1 rfl) ?_
        refine va_get (D := D) (ci := 1) (v := .int kd) (C := R_Program) (T := F_Program) (N := 5) hx hb hts in_Program hown hE.1 hP 0 rfl rfl 0 (by decide) (hts _ k_40) (fun _ h9 => h9) rfl d_Program_canBeDone_36 ?_
        refine vp_callSi (va_Run.run (va_runS (As := [.int (rd fo 64 k), .int kd]) (rest := [.int h]) ⟨hx, hb, hml, hown, hts⟩ (c_Op_needs l D cI cZ tN tG (rd fo 64 k) kd) (va_cwS 2 hts (gd3 k_207 k_208 k_24 k_209) rfl rfl rfl (by decide +kernel) ⟨Nat.le_of_ble_eq_true rfl, Nat.le_of_ble_eq_true rfl⟩) ⟨PZ_blind, pz_pre hE hZ hS (hP.sub [] rfl)⟩ rfl rfl hl.1 rfl (lv_room (Nat.le_of_ble_eq_true rfl)) d_Program_canBeDone_39 ⟨Nat.zero_le _, Nat.zero_le _⟩)) (fun r hq => ?_)
        subst hq
        refine lv_icmp_lt (tgt := 60) hx hb d_Program_canBeDone_42 (by decide) (fun h6 => ?_) (fun h6 => ?_)
        · -- h < (o_needs (rd fo 64 k) kd)
          refine lv_iconst (v := 0) hx hb d_Program_canBeDone_60 (by decide) ?_
          refine W.zret hx hb hr (by decide) (fun t ht hW => ⟨_, rfl, ?_, ht⟩) (fun q h => by cases h) d_Program_canBeDone_61
          show 0 = p_cbd kd sz ac fo fn k h
          first | (simp only [p_cbd, p_fit, h1, h2, h5, h6, if_true, if_false, eq_self, not_true_eq_false, not_false_eq_true, ne_eq]; done) | (simp only [p_cbd, p_fit, h1, h2, h5, h6, if_true, if_false, eq_self, not_true_eq_false, not_false_eq_true, ne_eq]; rfl) | (simp [p_cbd, p_fit, h1, h2, h5, h6]; done)
        · -- ¬ h < (o_needs (rd fo 64 k) kd)
          refine lv_iload_n hx hb d_Program_canBeDone_45 rfl (lv_at hl 3 rfl) ?_
          refine lv_iload_n hx hb d_Program_canBeDone_46 rfl (lv_at hl 0 rfl) ?_
          refine vp_callSi (va_Run.run (va_runS (As := [.int (rd fo 64 k)]) (rest := [.int h]) ⟨hx, hb, hml, hown, hts⟩ (c_Op_growth l D cI cZ tN tG (rd fo 64 k)) (va_cwS 1 hts (gd3 k_213 k_214 k_24 k_215) rfl rfl rfl (by decide +kernel) ⟨Nat.le_of_ble_eq_true rfl, Nat.le_of_ble_eq_true rfl⟩) ⟨PZ_blind, pz_pre hE hZ hS (hP.sub [] rfl)⟩ rfl rfl hl.1 rfl (lv_room (Nat.le_of_ble_eq_true rfl)) d_Program_canBeDone_47 ⟨Nat.zero_le _, Nat.zero_le _⟩)) (fun r hq => ?_)
          subst hq
          refine lv_iadd hx hb d_Program_canBeDone_50 ?_
          refine lv_bipush (v := 8) hx hb d_Program_canBeDone_51 (by decide) ?_
          refine lv_icmp_gt (tgt := 60) hx hb d_Program_canBeDone_53 (by decide) (fun h7 => ?_) (fun h7 => ?_)
          · -- 8 < (h + (o_grow (rd fo 64 k)))
            refine lv_iconst (v := 0) hx hb d_Program_canBeDone_60 (by decide) ?_
            refine W.zret hx hb hr (by decide) (fun t ht hW => ⟨_, rfl, ?_, ht⟩) (fun q h => by cases h) d_Program_canBeDone_61
            show 0 = p_cbd kd sz ac fo fn k h
            first | (simp only [p_cbd, p_fit, h1, h2, h5, h6, h7, if_true, if_false, eq_self, not_true_eq_false, not_false_eq_true, ne_eq]; done) | (simp only [p_cbd, p_fit, h1, h2, h5, h6, h7, if_true, if_false, eq_self, not_true_eq_false, not_false_eq_true, ne_eq]; rfl) | (simp [p_cbd, p_fit, h1, h2, h5, h6, h7]; done)
          · -- ¬ 8 < (h + (o_grow (rd fo 64 k)))
            refine lv_iconst (v := 1) hx hb d_Program_canBeDone_56 (by decide) ?_
            refine lv_goto (tgt := 61) hx hb d_Program_canBeDone_57 (by decide) ?_
            refine W.zret hx hb hr (by decide) (fun t ht hW => ⟨_, rfl, ?_, ht⟩) (fun q h => by cases h) d_Program_canBeDone_61
            show 1 = p_cbd kd sz ac fo fn k h
            first | (simp only [p_cbd, p_fit, h1, h2, h5, h6, h7, if_true, if_false, eq_self, not_true_eq_false, not_false_eq_true, ne_eq]; done) | (simp only [p_cbd, p_fit, h1, h2, h5, h6, h7, if_true, if_false, eq_self, not_true_eq_false, not_false_eq_true, ne_eq]; rfl) | (simp [p_cbd, p_fit, h1, h2, h5, h6, h7]; done)
      · -- (p_has sz (k + 1)) = 0
        refine lv_iconst (v := 0) hx hb d_Program_canBeDone_31 (by decide) ?_
        refine W.zret hx hb hr (by decide) (fun t ht hW => ⟨_, rfl, ?_, ht⟩) (fun q h => by cases h) d_Program_canBeDone_32
        show 0 = p_cbd kd sz ac fo fn k h
        first | (simp only [p_cbd, p_fit, h1, h2, h5, if_true, if_false, eq_self, not_true_eq_false, not_false_eq_true, ne_eq]; done) | (simp only [p_cbd, p_fit, h1, h2, h5, if_true, if_false, eq_self, not_true_eq_false, not_false_eq_true, ne_eq]; rfl) | (simp [p_cbd, p_fit, h1, h2, h5]; done)
