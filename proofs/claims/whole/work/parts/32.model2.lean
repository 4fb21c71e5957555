set_option maxHeartbeats 4000000 in
set_option maxRecDepth 100000 in
theorem c_Model_code (l : Launch) (D : va_G) (cI cZ : ClassId) (hz : Nat) (mo mp mq mr mw mt ml mk mv : Nat) (kd : Int32) (n : Nat) (fo fn fR fW fs fl fk fv : Nat → Int32) (em sp rs : Int32) (o nn : Int32) (hn : n ≤ 64) : Met l y_Model_code w_Model_code (rmk 0) (va_Pc [.ref mo, .int o, .int nn] (MY D cI cZ [(mo, .inr (4, [.int kd, .ref mp, .ref mq, .int (nI n), .ref mr, .ref mw, .ref mt, .ref ml, .ref mk, .ref mv, .int em, .int sp, .int rs])), (mp, .inl (cI, 64, .inl fo)), (mq, .inl (cI, 64, .inl fn)), (mr, .inl (cI, 576, .inl fR)), (mw, .inl (cZ, 64, .inl fW)), (mt, .inl (cI, 8, .inl fs)), (ml, .inl (cI, 4, .inl fl)), (mk, .inl (cI, 20, .inl fk)), (mv, .inl (cI, 20, .inl fv))] hz)) (va_Qi (fun (r : Int32) (u : (Nat → Int32) × (Nat → Int32) × Int32) => (n < 64 ∧ r = nI n ∧ u = (upd fo n o, upd fn n nn, nI (n + 1))) ∨ (n = 64 ∧ r = -3 ∧ u = (fo, fn, nI n))) (fun u t => ME D (va_A [(mo, .inr (4, [.int kd, .ref mp, .ref mq, .int (nI n), .ref mr, .ref mw, .ref mt, .ref ml, .ref mk, .ref mv, .int em, .int sp, .int rs])), (mp, .inl (cI, 64, .inl fo)), (mq, .inl (cI, 64, .inl fn)), (mr, .inl (cI, 576, .inl fR)), (mw, .inl (cZ, 64, .inl fW)), (mt, .inl (cI, 8, .inl fs)), (ml, .inl (cI, 4, .inl fl)), (mk, .inl (cI, 20, .inl fk)), (mv, .inl (cI, 20, .inl fv))] hz) [(mo, .inr (4, [.int kd, .ref mp, .ref mq, .int u.2.2, .ref mr, .ref mw, .ref mt, .ref ml, .ref mk, .ref mv, .int em, .int sp, .int rs])), (mp, .inl (cI, 64, .inl u.1)), (mq, .inl (cI, 64, .inl u.2.1)), (mr, .inl (cI, 576, .inl fR)), (mw, .inl (cZ, 64, .inl fW)), (mt, .inl (cI, 8, .inl fs)), (ml, .inl (cI, 4, .inl fl)), (mk, .inl (cI, 20, .inl fk)), (mv, .inl (cI, 20, .inl fv))] t) (va_A [(mo, .inr (4, [.int kd, .ref mp, .ref mq, .int (nI n), .ref mr, .ref mw, .ref mt, .ref ml, .ref mk, .ref mv, .int em, .int sp, .int rs])), (mp, .inl (cI, 64, .inl fo)), (mq, .inl (cI, 64, .inl fn)), (mr, .inl (cI, 576, .inl fR)), (mw, .inl (cZ, 64, .inl fW)), (mt, .inl (cI, 8, .inl fs)), (ml, .inl (cI, 4, .inl fl)), (mk, .inl (cI, 20, .inl fk)), (mv, .inl (cI, 20, .inl fv))] hz)) 0 0 (va_A [(mo, .inr (4, [.int kd, .ref mp, .ref mq, .int (nI n), .ref mr, .ref mw, .ref mt, .ref ml, .ref mk, .ref mv, .int em, .int sp, .int rs])), (mp, .inl (cI, 64, .inl fo)), (mq, .inl (cI, 64, .inl fn)), (mr, .inl (cI, 576, .inl fR)), (mw, .inl (cZ, 64, .inl fW)), (mt, .inl (cI, 8, .inl fs)), (ml, .inl (cI, 4, .inl fl)), (mk, .inl (cI, 20, .inl fk)), (mv, .inl (cI, 20, .inl fv))] hz) := by
  refine Met.ofW (cc := b_Model_code) (maxL := 3) (ret := (some .int)) (by decide) rfl ?_
  intro p e s m args below meth c s₁ B hml hv
  obtain ⟨rfl, hsz, hP, hE, hD0⟩ := hv
  have hx := B.exec
  have hb := B.bytes
  have hr := B.returns
  have hts : ∀ w ∈ gW, w.before _ s = true := fun w h => atoms_spec (ws := w_Model_code) B.pre w (List.mem_cons_of_mem _ h)
  have hown : s.vm.findClass R_Model = some m.cls := findClass_of_methodNamed B.named
  have hlocks := B.notSynchronized
  subst hsz
  have hD := hD0.self (sz := s.heap.size)
  have hA : ∀ q : Nat, s.heap.size ≤ q → va_A [(mo, .inr (4, [.int kd, .ref mp, .ref mq, .int (nI n), .ref mr, .ref mw, .ref mt, .ref ml, .ref mk, .ref mv, .int em, .int sp, .int rs])), (mp, .inl (cI, 64, .inl fo)), (mq, .inl (cI, 64, .inl fn)), (mr, .inl (cI, 576, .inl fR)), (mw, .inl (cZ, 64, .inl fW)), (mt, .inl (cI, 8, .inl fs)), (ml, .inl (cI, 4, .inl fl)), (mk, .inl (cI, 20, .inl fk)), (mv, .inl (cI, 20, .inl fv))] s.heap.size q := fun q h => Or.inr h
  generalize va_A [(mo, .inr (4, [.int kd, .ref mp, .ref mq, .int (nI n), .ref mr, .ref mw, .ref mt, .ref ml, .ref mk, .ref mv, .int em, .int sp, .int rs])), (mp, .inl (cI, 64, .inl fo)), (mq, .inl (cI, 64, .inl fn)), (mr, .inl (cI, 576, .inl fR)), (mw, .inl (cZ, 64, .inl fW)), (mt, .inl (cI, 8, .inl fs)), (ml, .inl (cI, 4, .inl fl)), (mk, .inl (cI, 20, .inl fk)), (mv, .inl (cI, 20, .inl fv))] s.heap.size = A at hD hA ⊢
  have hS : va_S A s.heap s.heap [] := va_S.rf
  have hP : va_P D classes [(mo, .inr (4, [.int kd, .ref mp, .ref mq, .int (nI n), .ref mr, .ref mw, .ref mt, .ref ml, .ref mk, .ref mv, .int em, .int sp, .int rs])), (mp, .inl (cI, 64, .inl fo)), (mq, .inl (cI, 64, .inl fn)), (mr, .inl (cI, 576, .inl fR)), (mw, .inl (cZ, 64, .inl fW)), (mt, .inl (cI, 8, .inl fs)), (ml, .inl (cI, 4, .inl fl)), (mk, .inl (cI, 20, .inl fk)), (mv, .inl (cI, 20, .inl fv))] s.heap := hP
  have hD : va_D A [(mo, .inr (4, [.int kd, .ref mp, .ref mq, .int (nI n), .ref mr, .ref mw, .ref mt, .ref ml, .ref mk, .ref mv, .int em, .int sp, .int rs])), (mp, .inl (cI, 64, .inl fo)), (mq, .inl (cI, 64, .inl fn)), (mr, .inl (cI, 576, .inl fR)), (mw, .inl (cZ, 64, .inl fW)), (mt, .inl (cI, 8, .inl fs)), (ml, .inl (cI, 4, .inl fl)), (mk, .inl (cI, 20, .inl fk)), (mv, .inl (cI, 20, .inl fv))] := hD
  have hl := lv_entry ([.ref mo, .int o, .int nn]) (n := 3) (Nat.le_of_ble_eq_true rfl)
  rw [lg_entry_eq]
  generalize (lg_sl ([.ref mo, .int o, .int nn]) ++ List.replicate (3 - (lg_sl ([.ref mo, .int o, .int nn])).length) Slot.unset).toArray = ls at hl ⊢
  have hl : lv_has ls 3 [(0, .ref mo), (1, .int o), (2, .int nn)] := hl
  refine lv_aload_n hx hb d_Model_code_0 rfl (lv_at hl 0 rfl) ?_
  refine va_get (D := D) (ci := 4) (v := .int (nI n)) (C := R_Model) (T := F_Model) (N := 13) hx hb hts in_Model hown hE.1 hP 0 rfl rfl 3 (by decide) (hts _ k_319) (fun _ h9 => h9) rfl d_Model_code_1 ?_
  refine lv_bipush (v := 64) hx hb d_Model_code_4 (by decide) ?_
  refine lv_icmp_ne (tgt := 12) hx hb d_Model_code_6 (by decide) (fun h1 => ?_) (fun h1 => ?_)
  · -- ¬ (nI n) = 64
    have hlt : n < 64 := Nat.lt_of_le_of_ne hn (fun q => h1 (by rw [q]; rfl))
    refine lv_aload_n hx hb d_Model_code_12 rfl (lv_at hl 0 rfl) ?_
    refine va_get (D := D) (ci := 4) (v := .ref mp) (C := R_Model) (T := F_Model) (N := 13) hx hb hts in_Model hown hE.1 hP 0 rfl rfl 1 (by decide) (hts _ k_317) (fun _ h9 => h9) rfl d_Model_code_13 ?_
    refine lv_aload_n hx hb d_Model_code_16 rfl (lv_at hl 0 rfl) ?_
    refine va_get (D := D) (ci := 4) (v := .int (nI n)) (C := R_Model) (T := F_Model) (N := 13) hx hb hts in_Model hown hE.1 hP 0 rfl rfl 3 (by decide) (hts _ k_319) (fun _ h9 => h9) rfl d_Model_code_17 ?_
    refine lv_iload_n hx hb d_Model_code_20 rfl (lv_at hl 1 rfl) ?_
    refine va_iast hx hb hE.1 hP hD hS 1 0 rfl rfl (vp_in_nI (by omega) (by decide)) d_Model_code_21 (fun H locs hP hD hS => ?_)
    rw [nI_clamp (show n < 2 ^ 31 by omega)] at hP hD
    have hP : va_P D classes [(mo, .inr (4, [.int kd, .ref mp, .ref mq, .int (nI n), .ref mr, .ref mw, .ref mt, .ref ml, .ref mk, .ref mv, .int em, .int sp, .int rs])), (mp, .inl (cI, 64, .inl (upd fo n o))), (mq, .inl (cI, 64, .inl fn)), (mr, .inl (cI, 576, .inl fR)), (mw, .inl (cZ, 64, .inl fW)), (mt, .inl (cI, 8, .inl fs)), (ml, .inl (cI, 4, .inl fl)), (mk, .inl (cI, 20, .inl fk)), (mv, .inl (cI, 20, .inl fv))] H := hP
    have hD : va_D A [(mo, .inr (4, [.int kd, .ref mp, .ref mq, .int (nI n), .ref mr, .ref mw, .ref mt, .ref ml, .ref mk, .ref mv, .int em, .int sp, .int rs])), (mp, .inl (cI, 64, .inl (upd fo n o))), (mq, .inl (cI, 64, .inl fn)), (mr, .inl (cI, 576, .inl fR)), (mw, .inl (cZ, 64, .inl fW)), (mt, .inl (cI, 8, .inl fs)), (ml, .inl (cI, 4, .inl fl)), (mk, .inl (cI, 20, .inl fk)), (mv, .inl (cI, 20, .inl fv))] := hD
    refine lv_aload_n hx hb d_Model_code_22 rfl (lv_at hl 0 rfl) ?_
    refine va_get (D := D) (ci := 4) (v := .ref mq) (C := R_Model) (T := F_Model) (N := 13) hx hb hts in_Model hown hE.1 hP 0 rfl rfl 2 (by decide) (hts _ k_318) (fun _ h9 => h9) rfl d_Model_code_23 ?_
    refine lv_aload_n hx hb d_Model_code_26 rfl (lv_at hl 0 rfl) ?_
    refine va_get (D := D) (ci := 4) (v := .int (nI n)) (C := R_Model) (T := F_Model) (N := 13) hx hb hts in_Model hown hE.1 hP 0 rfl rfl 3 (by decide) (hts _ k_319) (fun _ h9 => h9) rfl d_Model_code_27 ?_
    refine lv_iload_n hx hb d_Model_code_30 rfl (lv_at hl 2 rfl) ?_
    refine va_iast hx hb hE.1 hP hD hS 2 0 rfl rfl (vp_in_nI (by omega) (by decide)) d_Model_code_31 (fun H locs hP hD hS => ?_)
    rw [nI_clamp (show n < 2 ^ 31 by omega)] at hP hD
    have hP : va_P D classes [(mo, .inr (4, [.int kd, .ref mp, .ref mq, .int (nI n), .ref mr, .ref mw, .ref mt, .ref ml, .ref mk, .ref mv, .int em, .int sp, .int rs])), (mp, .inl (cI, 64, .inl (upd fo n o))), (mq, .inl (cI, 64, .inl (upd fn n nn))), (mr, .inl (cI, 576, .inl fR)), (mw, .inl (cZ, 64, .inl fW)), (mt, .inl (cI, 8, .inl fs)), (ml, .inl (cI, 4, .inl fl)), (mk, .inl (cI, 20, .inl fk)), (mv, .inl (cI, 20, .inl fv))] H := hP
    have hD : va_D A [(mo, .inr (4, [.int kd, .ref mp, .ref mq, .int (nI n), .ref mr, .ref mw, .ref mt, .ref ml, .ref mk, .ref mv, .int em, .int sp, .int rs])), (mp, .inl (cI, 64, .inl (upd fo n o))), (mq, .inl (cI, 64, .inl (upd fn n nn))), (mr, .inl (cI, 576, .inl fR)), (mw, .inl (cZ, 64, .inl fW)), (mt, .inl (cI, 8, .inl fs)), (ml, .inl (cI, 4, .inl fl)), (mk, .inl (cI, 20, .inl fk)), (mv, .inl (cI, 20, .inl fv))] := hD
    refine lv_aload_n hx hb d_Model_code_32 rfl (lv_at hl 0 rfl) ?_
    refine lv_dup hx hb d_Model_code_33 rfl ?_
    refine va_get (D := D) (ci := 4) (v := .int (nI n)) (C := R_Model) (T := F_Model) (N := 13) hx hb hts in_Model hown hE.1 hP 0 rfl rfl 3 (by decide) (hts _ k_319) (fun _ h9 => h9) rfl d_Model_code_34 ?_
    refine lv_iconst (v := 1) hx hb d_Model_code_37 (by decide) ?_
    refine lv_iadd hx hb d_Model_code_38 ?_
    refine va_put (D := D) (ci := 4) (v := .int ((nI n) + 1)) (ty := .int) (C := R_Model) (T := F_Model) (N := 13) hx hb hts in_Model t_Model t_Model_ok n_Model hown hE.1 hP hD hS 0 rfl rfl 3 (by decide) (hts _ k_319) (fun _ h9 => h9) rfl (by decide +kernel) rfl rfl (Nat.le_of_ble_eq_true rfl) d_Model_code_39 (fun H locs hP hD hS => ?_)
    have hP : va_P D classes [(mo, .inr (4, [.int kd, .ref mp, .ref mq, .int ((nI n) + 1), .ref mr, .ref mw, .ref mt, .ref ml, .ref mk, .ref mv, .int em, .int sp, .int rs])), (mp, .inl (cI, 64, .inl (upd fo n o))), (mq, .inl (cI, 64, .inl (upd fn n nn))), (mr, .inl (cI, 576, .inl fR)), (mw, .inl (cZ, 64, .inl fW)), (mt, .inl (cI, 8, .inl fs)), (ml, .inl (cI, 4, .inl fl)), (mk, .inl (cI, 20, .inl fk)), (mv, .inl (cI, 20, .inl fv))] H := hP
    have hD : va_D A [(mo, .inr (4, [.int kd, .ref mp, .ref mq, .int ((nI n) + 1), .ref mr, .ref mw, .ref mt, .ref ml, .ref mk, .ref mv, .int em, .int sp, .int rs])), (mp, .inl (cI, 64, .inl (upd fo n o))), (mq, .inl (cI, 64, .inl (upd fn n nn))), (mr, .inl (cI, 576, .inl fR)), (mw, .inl (cZ, 64, .inl fW)), (mt, .inl (cI, 8, .inl fs)), (ml, .inl (cI, 4, .inl fl)), (mk, .inl (cI, 20, .inl fk)), (mv, .inl (cI, 20, .inl fv))] := hD
    refine lv_aload_n hx hb d_Model_code_42 rfl (lv_at hl 0 rfl) ?_
    refine va_get (D := D) (ci := 4) (v := .int ((nI n) + 1)) (C := R_Model) (T := F_Model) (N := 13) hx hb hts in_Model hown hE.1 hP 0 rfl rfl 3 (by decide) (hts _ k_319) (fun _ h9 => h9) rfl d_Model_code_43 ?_
    refine lv_iconst (v := 1) hx hb d_Model_code_46 (by decide) ?_
    refine lv_isub hx hb d_Model_code_47 ?_
    refine W.iret hx hb hr (fun t ht hW => ⟨⟨(((nI n) + 1) - 1), ((upd fo n o), (upd fn n nn), ((nI n) + 1)), rfl, ?_, ?_⟩, hS.F ht⟩) hS.2.2 d_Model_code_48
    · exact Or.inl ⟨hlt, Int32.add_sub_cancel _ _, by rw [nI_1]⟩
    · exact ⟨by rw [ht]; exact hP.sub [0, 1, 2, 3, 4, 5, 6, 7, 8] rfl, hD.sub [0, 1, 2, 3, 4, 5, 6, 7, 8] (by decide) rfl⟩
  · -- (nI n) = 64
    refine lv_bipush (v := (-3)) hx hb d_Model_code_9 (by decide) ?_
    refine W.iret hx hb hr (fun t ht hW => ⟨⟨(-3), (fo, fn, (nI n)), rfl, ?_, ?_⟩, hS.F ht⟩) hS.2.2 d_Model_code_11
    · exact Or.inr ⟨(nI_eq (by omega) (by omega)).mp (show nI n = nI 64 from h1), rfl, rfl⟩
    · exact ⟨by rw [ht]; exact hP.sub [0, 1, 2, 3, 4, 5, 6, 7, 8] rfl, hD.sub [0, 1, 2, 3, 4, 5, 6, 7, 8] (by decide) rfl⟩
set_option maxHeartbeats 4000000 in
set_option maxRecDepth 100000 in
theorem c_Model_clear (l : Launch) (D : va_G) (cI cZ : ClassId) (hz : Nat) (mo mp mq mr mw mt ml mk mv : Nat) (kd : Int32) (n : Nat) (fo fn fR fW fs fl fk fv : Nat → Int32) (em sp rs : Int32) : Met l y_Model_clear w_Model_clear (rmk 0) (va_Pc [.ref mo] (MY D cI cZ [(mo, .inr (4, [.int kd, .ref mp, .ref mq, .int (nI n), .ref mr, .ref mw, .ref mt, .ref ml, .ref mk, .ref mv, .int em, .int sp, .int rs])), (mp, .inl (cI, 64, .inl fo)), (mq, .inl (cI, 64, .inl fn)), (mr, .inl (cI, 576, .inl fR)), (mw, .inl (cZ, 64, .inl fW)), (mt, .inl (cI, 8, .inl fs)), (ml, .inl (cI, 4, .inl fl)), (mk, .inl (cI, 20, .inl fk)), (mv, .inl (cI, 20, .inl fv))] hz)) (va_Qi (fun (r : Int32) (_ : Unit) => r = nI n) (fun u t => ME D (va_A [(mo, .inr (4, [.int kd, .ref mp, .ref mq, .int (nI n), .ref mr, .ref mw, .ref mt, .ref ml, .ref mk, .ref mv, .int em, .int sp, .int rs])), (mp, .inl (cI, 64, .inl fo)), (mq, .inl (cI, 64, .inl fn)), (mr, .inl (cI, 576, .inl fR)), (mw, .inl (cZ, 64, .inl fW)), (mt, .inl (cI, 8, .inl fs)), (ml, .inl (cI, 4, .inl fl)), (mk, .inl (cI, 20, .inl fk)), (mv, .inl (cI, 20, .inl fv))] hz) [(mo, .inr (4, [.int kd, .ref mp, .ref mq, .int 0, .ref mr, .ref mw, .ref mt, .ref ml, .ref mk, .ref mv, .int em, .int sp, .int rs])), (mp, .inl (cI, 64, .inl fo)), (mq, .inl (cI, 64, .inl fn)), (mr, .inl (cI, 576, .inl fR)), (mw, .inl (cZ, 64, .inl fW)), (mt, .inl (cI, 8, .inl fs)), (ml, .inl (cI, 4, .inl fl)), (mk, .inl (cI, 20, .inl fk)), (mv, .inl (cI, 20, .inl fv))] t) (va_A [(mo, .inr (4, [.int kd, .ref mp, .ref mq, .int (nI n), .ref mr, .ref mw, .ref mt, .ref ml, .ref mk, .ref mv, .int em, .int sp, .int rs])), (mp, .inl (cI, 64, .inl fo)), (mq, .inl (cI, 64, .inl fn)), (mr, .inl (cI, 576, .inl fR)), (mw, .inl (cZ, 64, .inl fW)), (mt, .inl (cI, 8, .inl fs)), (ml, .inl (cI, 4, .inl fl)), (mk, .inl (cI, 20, .inl fk)), (mv, .inl (cI, 20, .inl fv))] hz)) 0 0 (va_A [(mo, .inr (4, [.int kd, .ref mp, .ref mq, .int (nI n), .ref mr, .ref mw, .ref mt, .ref ml, .ref mk, .ref mv, .int em, .int sp, .int rs])), (mp, .inl (cI, 64, .inl fo)), (mq, .inl (cI, 64, .inl fn)), (mr, .inl (cI, 576, .inl fR)), (mw, .inl (cZ, 64, .inl fW)), (mt, .inl (cI, 8, .inl fs)), (ml, .inl (cI, 4, .inl fl)), (mk, .inl (cI, 20, .inl fk)), (mv, .inl (cI, 20, .inl fv))] hz) := by
  refine Met.ofW (cc := b_Model_clear) (maxL := 2) (ret := (some .int)) (by decide) rfl ?_
  intro p e s m args below meth c s₁ B hml hv
  obtain ⟨rfl, hsz, hP, hE, hD0⟩ := hv
  have hx := B.exec
  have hb := B.bytes
  have hr := B.returns
  have hts : ∀ w ∈ gW, w.before _ s = true := fun w h => atoms_spec (ws := w_Model_clear) B.pre w (List.mem_cons_of_mem _ h)
  have hown : s.vm.findClass R_Model = some m.cls := findClass_of_methodNamed B.named
  have hlocks := B.notSynchronized
  subst hsz
  have hD := hD0.self (sz := s.heap.size)
  have hA : ∀ q : Nat, s.heap.size ≤ q → va_A [(mo, .inr (4, [.int kd, .ref mp, .ref mq, .int (nI n), .ref mr, .ref mw, .ref mt, .ref ml, .ref mk, .ref mv, .int em, .int sp, .int rs])), (mp, .inl (cI, 64, .inl fo)), (mq, .inl (cI, 64, .inl fn)), (mr, .inl (cI, 576, .inl fR)), (mw, .inl (cZ, 64, .inl fW)), (mt, .inl (cI, 8, .inl fs)), (ml, .inl (cI, 4, .inl fl)), (mk, .inl (cI, 20, .inl fk)), (mv, .inl (cI, 20, .inl fv))] s.heap.size q := fun q h => Or.inr h
  generalize va_A [(mo, .inr (4, [.int kd, .ref mp, .ref mq, .int (nI n), .ref mr, .ref mw, .ref mt, .ref ml, .ref mk, .ref mv, .int em, .int sp, .int rs])), (mp, .inl (cI, 64, .inl fo)), (mq, .inl (cI, 64, .inl fn)), (mr, .inl (cI, 576, .inl fR)), (mw, .inl (cZ, 64, .inl fW)), (mt, .inl (cI, 8, .inl fs)), (ml, .inl (cI, 4, .inl fl)), (mk, .inl (cI, 20, .inl fk)), (mv, .inl (cI, 20, .inl fv))] s.heap.size = A at hD hA ⊢
  have hS : va_S A s.heap s.heap [] := va_S.rf
  have hP : va_P D classes [(mo, .inr (4, [.int kd, .ref mp, .ref mq, .int (nI n), .ref mr, .ref mw, .ref mt, .ref ml, .ref mk, .ref mv, .int em, .int sp, .int rs])), (mp, .inl (cI, 64, .inl fo)), (mq, .inl (cI, 64, .inl fn)), (mr, .inl (cI, 576, .inl fR)), (mw, .inl (cZ, 64, .inl fW)), (mt, .inl (cI, 8, .inl fs)), (ml, .inl (cI, 4, .inl fl)), (mk, .inl (cI, 20, .inl fk)), (mv, .inl (cI, 20, .inl fv))] s.heap := hP
  have hD : va_D A [(mo, .inr (4, [.int kd, .ref mp, .ref mq, .int (nI n), .ref mr, .ref mw, .ref mt, .ref ml, .ref mk, .ref mv, .int em, .int sp, .int rs])), (mp, .inl (cI, 64, .inl fo)), (mq, .inl (cI, 64, .inl fn)), (mr, .inl (cI, 576, .inl fR)), (mw, .inl (cZ, 64, .inl fW)), (mt, .inl (cI, 8, .inl fs)), (ml, .inl (cI, 4, .inl fl)), (mk, .inl (cI, 20, .inl fk)), (mv, .inl (cI, 20, .inl fv))] := hD
  have hl := lv_entry ([.ref mo]) (n := 2) (Nat.le_of_ble_eq_true rfl)
  rw [lg_entry_eq]
  generalize (lg_sl ([.ref mo]) ++ List.replicate (2 - (lg_sl ([.ref mo])).length) Slot.unset).toArray = ls at hl ⊢
  have hl : lv_has ls 2 [(0, .ref mo)] := hl
  refine lv_aload_n hx hb d_Model_clear_0 rfl (lv_at hl 0 rfl) ?_
  refine va_get (D := D) (ci := 4) (v := .int (nI n)) (C := R_Model) (T := F_Model) (N := 13) hx hb hts in_Model hown hE.1 hP 0 rfl rfl 3 (by decide) (hts _ k_319) (fun _ h9 => h9) rfl d_Model_clear_1 ?_
  refine lv_istore_n hx hb d_Model_clear_4 rfl hl (by decide) rfl (fun ls hl => ?_)
  have hl : lv_has ls 2 [(1, .int (nI n)), (0, .ref mo)] := hl
  refine lv_aload_n hx hb d_Model_clear_5 rfl (lv_at hl 1 rfl) ?_
  refine lv_iconst (v := 0) hx hb d_Model_clear_6 (by decide) ?_
  refine va_put (D := D) (ci := 4) (v := .int 0) (ty := .int) (C := R_Model) (T := F_Model) (N := 13) hx hb hts in_Model t_Model t_Model_ok n_Model hown hE.1 hP hD hS 0 rfl rfl 3 (by decide) (hts _ k_319) (fun _ h9 => h9) rfl (by decide +kernel) rfl rfl (Nat.le_of_ble_eq_true rfl) d_Model_clear_7 (fun H locs hP hD hS => ?_)
  have hP : va_P D classes [(mo, .inr (4, [.int kd, .ref mp, .ref mq, .int 0, .ref mr, .ref mw, .ref mt, .ref ml, .ref mk, .ref mv, .int em, .int sp, .int rs])), (mp, .inl (cI, 64, .inl fo)), (mq, .inl (cI, 64, .inl fn)), (mr, .inl (cI, 576, .inl fR)), (mw, .inl (cZ, 64, .inl fW)), (mt, .inl (cI, 8, .inl fs)), (ml, .inl (cI, 4, .inl fl)), (mk, .inl (cI, 20, .inl fk)), (mv, .inl (cI, 20, .inl fv))] H := hP
  have hD : va_D A [(mo, .inr (4, [.int kd, .ref mp, .ref mq, .int 0, .ref mr, .ref mw, .ref mt, .ref ml, .ref mk, .ref mv, .int em, .int sp, .int rs])), (mp, .inl (cI, 64, .inl fo)), (mq, .inl (cI, 64, .inl fn)), (mr, .inl (cI, 576, .inl fR)), (mw, .inl (cZ, 64, .inl fW)), (mt, .inl (cI, 8, .inl fs)), (ml, .inl (cI, 4, .inl fl)), (mk, .inl (cI, 20, .inl fk)), (mv, .inl (cI, 20, .inl fv))] := hD
  refine lv_iload_n hx hb d_Model_clear_10 rfl (lv_at hl 0 rfl) ?_
  refine W.iret hx hb hr (fun t ht hW => ⟨⟨(nI n), (), rfl, ?_, ?_⟩, hS.F ht⟩) hS.2.2 d_Model_clear_11
  · rfl
  · exact ⟨by rw [ht]; exact hP.sub [0, 1, 2, 3, 4, 5, 6, 7, 8] rfl, hD.sub [0, 1, 2, 3, 4, 5, 6, 7, 8] (by decide) rfl⟩
set_option maxHeartbeats 4000000 in
set_option maxRecDepth 100000 in
theorem c_Model_drop (l : Launch) (D : va_G) (cI cZ : ClassId) (hz : Nat) (mo mp mq mr mw mt ml mk mv : Nat) (kd : Int32) (n : Nat) (fo fn fR fW fs fl fk fv : Nat → Int32) (em sp rs : Int32) : Met l y_Model_drop w_Model_drop (rmk 0) (va_Pc [.ref mo] (MY D cI cZ [(mo, .inr (4, [.int kd, .ref mp, .ref mq, .int (nI n), .ref mr, .ref mw, .ref mt, .ref ml, .ref mk, .ref mv, .int em, .int sp, .int rs])), (mp, .inl (cI, 64, .inl fo)), (mq, .inl (cI, 64, .inl fn)), (mr, .inl (cI, 576, .inl fR)), (mw, .inl (cZ, 64, .inl fW)), (mt, .inl (cI, 8, .inl fs)), (ml, .inl (cI, 4, .inl fl)), (mk, .inl (cI, 20, .inl fk)), (mv, .inl (cI, 20, .inl fv))] hz)) (va_Qi (fun (r : Int32) (u : Int32) => (r, u) = if nI n = 0 then (-2, nI n) else (nI n - 1, nI n - 1)) (fun u t => ME D (va_A [(mo, .inr (4, [.int kd, .ref mp, .ref mq, .int (nI n), .ref mr, .ref mw, .ref mt, .ref ml, .ref mk, .ref mv, .int em, .int sp, .int rs])), (mp, .inl (cI, 64, .inl fo)), (mq, .inl (cI, 64, .inl fn)), (mr, .inl (cI, 576, .inl fR)), (mw, .inl (cZ, 64, .inl fW)), (mt, .inl (cI, 8, .inl fs)), (ml, .inl (cI, 4, .inl fl)), (mk, .inl (cI, 20, .inl fk)), (mv, .inl (cI, 20, .inl fv))] hz) [(mo, .inr (4, [.int kd, .ref mp, .ref mq, .int u, .ref mr, .ref mw, .ref mt, .ref ml, .ref mk, .ref mv, .int em, .int sp, .int rs])), (mp, .inl (cI, 64, .inl fo)), (mq, .inl (cI, 64, .inl fn)), (mr, .inl (cI, 576, .inl fR)), (mw, .inl (cZ, 64, .inl fW)), (mt, .inl (cI, 8, .inl fs)), (ml, .inl (cI, 4, .inl fl)), (mk, .inl (cI, 20, .inl fk)), (mv, .inl (cI, 20, .inl fv))] t) (va_A [(mo, .inr (4, [.int kd, .ref mp, .ref mq, .int (nI n), .ref mr, .ref mw, .ref mt, .ref ml, .ref mk, .ref mv, .int em, .int sp, .int rs])), (mp, .inl (cI, 64, .inl fo)), (mq, .inl (cI, 64, .inl fn)), (mr, .inl (cI, 576, .inl fR)), (mw, .inl (cZ, 64, .inl fW)), (mt, .inl (cI, 8, .inl fs)), (ml, .inl (cI, 4, .inl fl)), (mk, .inl (cI, 20, .inl fk)), (mv, .inl (cI, 20, .inl fv))] hz)) 0 0 (va_A [(mo, .inr (4, [.int kd, .ref mp, .ref mq, .int (nI n), .ref mr, .ref mw, .ref mt, .ref ml, .ref mk, .ref mv, .int em, .int sp, .int rs])), (mp, .inl (cI, 64, .inl fo)), (mq, .inl (cI, 64, .inl fn)), (mr, .inl (cI, 576, .inl fR)), (mw, .inl (cZ, 64, .inl fW)), (mt, .inl (cI, 8, .inl fs)), (ml, .inl (cI, 4, .inl fl)), (mk, .inl (cI, 20, .inl fk)), (mv, .inl (cI, 20, .inl fv))] hz) := by
  refine Met.ofW (cc := b_Model_drop) (maxL := 1) (ret := (some .int)) (by decide) rfl ?_
  intro p e s m args below meth c s₁ B hml hv
  obtain ⟨rfl, hsz, hP, hE, hD0⟩ := hv
  have hx := B.exec
  have hb := B.bytes
  have hr := B.returns
  have hts : ∀ w ∈ gW, w.before _ s = true := fun w h => atoms_spec (ws := w_Model_drop) B.pre w (List.mem_cons_of_mem _ h)
  have hown : s.vm.findClass R_Model = some m.cls := findClass_of_methodNamed B.named
  have hlocks := B.notSynchronized
  subst hsz
  have hD := hD0.self (sz := s.heap.size)
  have hA : ∀ q : Nat, s.heap.size ≤ q → va_A [(mo, .inr (4, [.int kd, .ref mp, .ref mq, .int (nI n), .ref mr, .ref mw, .ref mt, .ref ml, .ref mk, .ref mv, .int em, .int sp, .int rs])), (mp, .inl (cI, 64, .inl fo)), (mq, .inl (cI, 64, .inl fn)), (mr, .inl (cI, 576, .inl fR)), (mw, .inl (cZ, 64, .inl fW)), (mt, .inl (cI, 8, .inl fs)), (ml, .inl (cI, 4, .inl fl)), (mk, .inl (cI, 20, .inl fk)), (mv, .inl (cI, 20, .inl fv))] s.heap.size q := fun q h => Or.inr h
  generalize va_A [(mo, .inr (4, [.int kd, .ref mp, .ref mq, .int (nI n), .ref mr, .ref mw, .ref mt, .ref ml, .ref mk, .ref mv, .int em, .int sp, .int rs])), (mp, .inl (cI, 64, .inl fo)), (mq, .inl (cI, 64, .inl fn)), (mr, .inl (cI, 576, .inl fR)), (mw, .inl (cZ, 64, .inl fW)), (mt, .inl (cI, 8, .inl fs)), (ml, .inl (cI, 4, .inl fl)), (mk, .inl (cI, 20, .inl fk)), (mv, .inl (cI, 20, .inl fv))] s.heap.size = A at hD hA ⊢
  have hS : va_S A s.heap s.heap [] := va_S.rf
  have hP : va_P D classes [(mo, .inr (4, [.int kd, .ref mp, .ref mq, .int (nI n), .ref mr, .ref mw, .ref mt, .ref ml, .ref mk, .ref mv, .int em, .int sp, .int rs])), (mp, .inl (cI, 64, .inl fo)), (mq, .inl (cI, 64, .inl fn)), (mr, .inl (cI, 576, .inl fR)), (mw, .inl (cZ, 64, .inl fW)), (mt, .inl (cI, 8, .inl fs)), (ml, .inl (cI, 4, .inl fl)), (mk, .inl (cI, 20, .inl fk)), (mv, .inl (cI, 20, .inl fv))] s.heap := hP
  have hD : va_D A [(mo, .inr (4, [.int kd, .ref mp, .ref mq, .int (nI n), .ref mr, .ref mw, .ref mt, .ref ml, .ref mk, .ref mv, .int em, .int sp, .int rs])), (mp, .inl (cI, 64, .inl fo)), (mq, .inl (cI, 64, .inl fn)), (mr, .inl (cI, 576, .inl fR)), (mw, .inl (cZ, 64, .inl fW)), (mt, .inl (cI, 8, .inl fs)), (ml, .inl (cI, 4, .inl fl)), (mk, .inl (cI, 20, .inl fk)), (mv, .inl (cI, 20, .inl fv))] := hD
  have hl := lv_entry ([.ref mo]) (n := 1) (Nat.le_of_ble_eq_true rfl)
  rw [lg_entry_eq]
  generalize (lg_sl ([.ref mo]) ++ List.replicate (1 - (lg_sl ([.ref mo])).length) Slot.unset).toArray = ls at hl ⊢
  have hl : lv_has ls 1 [(0, .ref mo)] := hl
  refine lv_aload_n hx hb d_Model_drop_0 rfl (lv_at hl 0 rfl) ?_
  refine va_get (D := D) (ci := 4) (v := .int (nI n)) (C := R_Model) (T := F_Model) (N := 13) hx hb hts in_Model hown hE.1 hP 0 rfl rfl 3 (by decide) (hts _ k_319) (fun _ h9 => h9) rfl d_Model_drop_1 ?_
  refine lv_if_ne (tgt := 10) hx hb d_Model_drop_4 (by decide) (fun h1 => ?_) (fun h1 => ?_)
  · -- ¬ (nI n) = 0
    refine lv_aload_n hx hb d_Model_drop_10 rfl (lv_at hl 0 rfl) ?_
    refine lv_dup hx hb d_Model_drop_11 rfl ?_
    refine va_get (D := D) (ci := 4) (v := .int (nI n)) (C := R_Model) (T := F_Model) (N := 13) hx hb hts in_Model hown hE.1 hP 0 rfl rfl 3 (by decide) (hts _ k_319) (fun _ h9 => h9) rfl d_Model_drop_12 ?_
    refine lv_iconst (v := 1) hx hb d_Model_drop_15 (by decide) ?_
    refine lv_isub hx hb d_Model_drop_16 ?_
    refine va_put (D := D) (ci := 4) (v := .int ((nI n) - 1)) (ty := .int) (C := R_Model) (T := F_Model) (N := 13) hx hb hts in_Model t_Model t_Model_ok n_Model hown hE.1 hP hD hS 0 rfl rfl 3 (by decide) (hts _ k_319) (fun _ h9 => h9) rfl (by decide +kernel) rfl rfl (Nat.le_of_ble_eq_true rfl) d_Model_drop_17 (fun H locs hP hD hS => ?_)
    have hP : va_P D classes [(mo, .inr (4, [.int kd, .ref mp, .ref mq, .int ((nI n) - 1), .ref mr, .ref mw, .ref mt, .ref ml, .ref mk, .ref mv, .int em, .int sp, .int rs])), (mp, .inl (cI, 64, .inl fo)), (mq, .inl (cI, 64, .inl fn)), (mr, .inl (cI, 576, .inl fR)), (mw, .inl (cZ, 64, .inl fW)), (mt, .inl (cI, 8, .inl fs)), (ml, .inl (cI, 4, .inl fl)), (mk, .inl (cI, 20, .inl fk)), (mv, .inl (cI, 20, .inl fv))] H := hP
    have hD : va_D A [(mo, .inr (4, [.int kd, .ref mp, .ref mq, .int ((nI n) - 1), .ref mr, .ref mw, .ref mt, .ref ml, .ref mk, .ref mv, .int em, .int sp, .int rs])), (mp, .inl (cI, 64, .inl fo)), (mq, .inl (cI, 64, .inl fn)), (mr, .inl (cI, 576, .inl fR)), (mw, .inl (cZ, 64, .inl fW)), (mt, .inl (cI, 8, .inl fs)), (ml, .inl (cI, 4, .inl fl)), (mk, .inl (cI, 20, .inl fk)), (mv, .inl (cI, 20, .inl fv))] := hD
    refine lv_aload_n hx hb d_Model_drop_20 rfl (lv_at hl 0 rfl) ?_
    refine va_get (D := D) (ci := 4) (v := .int ((nI n) - 1)) (C := R_Model) (T := F_Model) (N := 13) hx hb hts in_Model hown hE.1 hP 0 rfl rfl 3 (by decide) (hts _ k_319) (fun _ h9 => h9) rfl d_Model_drop_21 ?_
    refine W.iret hx hb hr (fun t ht hW => ⟨⟨((nI n) - 1), ((nI n) - 1), rfl, ?_, ?_⟩, hS.F ht⟩) hS.2.2 d_Model_drop_24
    · first | (simp only [h1, if_true, if_false, eq_self, not_true_eq_false, not_false_eq_true, ne_eq]; done) | (simp only [h1, if_true, if_false, eq_self, not_true_eq_false, not_false_eq_true, ne_eq]; rfl) | (simp [h1]; done)
    · exact ⟨by rw [ht]; exact hP.sub [0, 1, 2, 3, 4, 5, 6, 7, 8] rfl, hD.sub [0, 1, 2, 3, 4, 5, 6, 7, 8] (by decide) rfl⟩
  · -- (nI n) = 0
    refine lv_bipush (v := (-2)) hx hb d_Model_drop_7 (by decide) ?_
    refine W.iret hx hb hr (fun t ht hW => ⟨⟨(-2), (nI n), rfl, ?_, ?_⟩, hS.F ht⟩) hS.2.2 d_Model_drop_9
    · first | (simp only [h1, if_true, if_false, eq_self, not_true_eq_false, not_false_eq_true, ne_eq]; done) | (simp only [h1, if_true, if_false, eq_self, not_true_eq_false, not_false_eq_true, ne_eq]; rfl) | (simp [h1]; done)
    · exact ⟨by rw [ht]; exact hP.sub [0, 1, 2, 3, 4, 5, 6, 7, 8] rfl, hD.sub [0, 1, 2, 3, 4, 5, 6, 7, 8] (by decide) rfl⟩
set_option maxHeartbeats 4000000 in
set_option maxRecDepth 100000 in
theorem c_Model_pair (l : Launch) (D : va_G) (cI cZ : ClassId) (mo mp mq mr mw mt ml mk mv : Nat) (kd : Int32) (n : Nat) (fo fn fR fW fs fl fk fv : Nat → Int32) (pp : Nat) (sp rs : Int32) (k what : Int32) (hp : pp ≤ 20) : Met l y_Model_pair w_Model_pair (rmk 0) (va_Pc [.ref mo, .int k, .int what] (PY D cI cZ [(mo, .inr (4, [.int kd, .ref mp, .ref mq, .int (nI n), .ref mr, .ref mw, .ref mt, .ref ml, .ref mk, .ref mv, .int (nI pp), .int sp, .int rs])), (mp, .inl (cI, 64, .inl fo)), (mq, .inl (cI, 64, .inl fn)), (mr, .inl (cI, 576, .inl fR)), (mw, .inl (cZ, 64, .inl fW)), (mt, .inl (cI, 8, .inl fs)), (ml, .inl (cI, 4, .inl fl)), (mk, .inl (cI, 20, .inl fk)), (mv, .inl (cI, 20, .inl fv))])) (vp_Sl (fun r => r = v_pair (nI pp) fk fv k what)) 0 0 (fun _ => False) := by
  refine Met.ofW (cc := b_Model_pair) (maxL := 3) (ret := (some .long)) (by decide) rfl ?_
  intro p e s m args below meth c s₁ B hml hv
  obtain ⟨rfl, hP, hE⟩ := hv
  have hx := B.exec
  have hb := B.bytes
  have hr := B.returns
  have hts : ∀ w ∈ gW, w.before _ s = true := fun w h => atoms_spec (ws := w_Model_pair) B.pre w (List.mem_cons_of_mem _ h)
  have hown : s.vm.findClass R_Model = some m.cls := findClass_of_methodNamed B.named
  have hlocks := B.notSynchronized
  have hS : va_S (fun _ => False) s.heap s.heap [] := va_S.rf
  have hP : va_P D classes [(mo, .inr (4, [.int kd, .ref mp, .ref mq, .int (nI n), .ref mr, .ref mw, .ref mt, .ref ml, .ref mk, .ref mv, .int (nI pp), .int sp, .int rs])), (mp, .inl (cI, 64, .inl fo)), (mq, .inl (cI, 64, .inl fn)), (mr, .inl (cI, 576, .inl fR)), (mw, .inl (cZ, 64, .inl fW)), (mt, .inl (cI, 8, .inl fs)), (ml, .inl (cI, 4, .inl fl)), (mk, .inl (cI, 20, .inl fk)), (mv, .inl (cI, 20, .inl fv))] s.heap := hP
  have hl := lv_entry ([.ref mo, .int k, .int what]) (n := 3) (Nat.le_of_ble_eq_true rfl)
  rw [lg_entry_eq]
  generalize (lg_sl ([.ref mo, .int k, .int what]) ++ List.replicate (3 - (lg_sl ([.ref mo, .int k, .int what])).length) Slot.unset).toArray = ls at hl ⊢
  have hl : lv_has ls 3 [(0, .ref mo), (1, .int k), (2, .int what)] := hl
  refine lv_iload_n hx hb d_Model_pair_0 rfl (lv_at hl 1 rfl) ?_
  refine lv_if_lt (tgt := 21) hx hb d_Model_pair_1 (by decide) (fun h1 => ?_) (fun h1 => ?_)
  · -- k < 0
    refine lv_ldc2 (v := 1099511627776) hx hb hown (hts _ k_428) d_Model_pair_21 ?_
    refine W.lret hx hb hr (fun t ht hW => ⟨_, rfl, ?_, ht⟩) (fun q h => by cases h) d_Model_pair_24
    show 1099511627776 = v_pair (nI pp) fk fv k what
    first | (simp only [v_pair, h1, if_true, if_false, eq_self, not_true_eq_false, not_false_eq_true, ne_eq]; done) | (simp only [v_pair, h1, if_true, if_false, eq_self, not_true_eq_false, not_false_eq_true, ne_eq]; rfl) | (simp [v_pair, h1]; done)
  · -- ¬ k < 0
    refine lv_iload_n hx hb d_Model_pair_4 rfl (lv_at hl 1 rfl) ?_
    refine lv_aload_n hx hb d_Model_pair_5 rfl (lv_at hl 0 rfl) ?_
    refine va_get (D := D) (ci := 4) (v := .int (nI pp)) (C := R_Model) (T := F_Model) (N := 13) hx hb hts in_Model hown hE.1 hP 0 rfl rfl 10 (by decide) (hts _ k_326) (fun _ h9 => h9) rfl d_Model_pair_6 ?_
    refine lv_icmp_ge (tgt := 21) hx hb d_Model_pair_9 (by decide) (fun h2 => ?_) (fun h2 => ?_)
    · -- (nI pp) ≤ k
      refine lv_ldc2 (v := 1099511627776) hx hb hown (hts _ k_428) d_Model_pair_21 ?_
      refine W.lret hx hb hr (fun t ht hW => ⟨_, rfl, ?_, ht⟩) (fun q h => by cases h) d_Model_pair_24
      show 1099511627776 = v_pair (nI pp) fk fv k what
      first | (simp only [v_pair, h1, h2, if_true, if_false, eq_self, not_true_eq_false, not_false_eq_true, ne_eq]; done) | (simp only [v_pair, h1, h2, if_true, if_false, eq_self, not_true_eq_false, not_false_eq_true, ne_eq]; rfl) | (simp [v_pair, h1, h2]; done)
    · -- ¬ (nI pp) ≤ k
      refine lv_iload_n hx hb d_Model_pair_12 rfl (lv_at hl 2 rfl) ?_
      refine lv_if_lt (tgt := 21) hx hb d_Model_pair_13 (by decide) (fun h3 => ?_) (fun h3 => ?_)
      · -- what < 0
        refine lv_ldc2 (v := 1099511627776) hx hb hown (hts _ k_428) d_Model_pair_21 ?_
        refine W.lret hx hb hr (fun t ht hW => ⟨_, rfl, ?_, ht⟩) (fun q h => by cases h) d_Model_pair_24
        show 1099511627776 = v_pair (nI pp) fk fv k what
        first | (simp only [v_pair, h1, h2, h3, if_true, if_false, eq_self, not_true_eq_false, not_false_eq_true, ne_eq]; done) | (simp only [v_pair, h1, h2, h3, if_true, if_false, eq_self, not_true_eq_false, not_false_eq_true, ne_eq]; rfl) | (simp [v_pair, h1, h2, h3]; done)
      · -- ¬ what < 0
        refine lv_iload_n hx hb d_Model_pair_16 rfl (lv_at hl 2 rfl) ?_
        refine lv_iconst (v := 1) hx hb d_Model_pair_17 (by decide) ?_
        refine lv_icmp_le (tgt := 25) hx hb d_Model_pair_18 (by decide) (fun h4 => ?_) (fun h4 => ?_)
        · -- what ≤ 1
          refine lv_iload_n hx hb d_Model_pair_25 rfl (lv_at hl 2 rfl) ?_
          refine lv_if_ne (tgt := 39) hx hb d_Model_pair_26 (by decide) (fun h5 => ?_) (fun h5 => ?_)
          · -- ¬ what = 0
            refine lv_aload_n hx hb d_Model_pair_39 rfl (lv_at hl 0 rfl) ?_
            refine va_get (D := D) (ci := 4) (v := .ref mv) (C := R_Model) (T := F_Model) (N := 13) hx hb hts in_Model hown hE.1 hP 0 rfl rfl 9 (by decide) (hts _ k_325) (fun _ h9 => h9) rfl d_Model_pair_40 ?_
            refine lv_iload_n hx hb d_Model_pair_43 rfl (lv_at hl 1 rfl) ?_
            refine va_iald hx hb hE.1 hP 8 0 rfl rfl (in_pair hp h1 h2) d_Model_pair_44 ?_
            refine lv_i2l (v := ((fv k.toNatClampNeg)).toInt64) hx hb d_Model_pair_45 rfl ?_
            refine W.lret hx hb hr (fun t ht hW => ⟨_, rfl, ?_, ht⟩) (fun q h => by cases h) d_Model_pair_46
            show (((fv k.toNatClampNeg)).toInt64) = v_pair (nI pp) fk fv k what
            first | (simp only [v_pair, h1, h2, h3, h4, h5, if_true, if_false, eq_self, not_true_eq_false, not_false_eq_true, ne_eq]; done) | (simp only [v_pair, h1, h2, h3, h4, h5, if_true, if_false, eq_self, not_true_eq_false, not_false_eq_true, ne_eq]; rfl) | (simp [v_pair, h1, h2, h3, h4, h5]; done)
          · -- what = 0
            refine lv_aload_n hx hb d_Model_pair_29 rfl (lv_at hl 0 rfl) ?_
            refine va_get (D := D) (ci := 4) (v := .ref mk) (C := R_Model) (T := F_Model) (N := 13) hx hb hts in_Model hown hE.1 hP 0 rfl rfl 8 (by decide) (hts _ k_324) (fun _ h9 => h9) rfl d_Model_pair_30 ?_
            refine lv_iload_n hx hb d_Model_pair_33 rfl (lv_at hl 1 rfl) ?_
            refine va_iald hx hb hE.1 hP 7 0 rfl rfl (in_pair hp h1 h2) d_Model_pair_34 ?_
            refine lv_i2l (v := ((fk k.toNatClampNeg)).toInt64) hx hb d_Model_pair_35 rfl ?_
            refine lv_goto (tgt := 46) hx hb d_Model_pair_36 (by decide) ?_
            refine W.lret hx hb hr (fun t ht hW => ⟨_, rfl, ?_, ht⟩) (fun q h => by cases h) d_Model_pair_46
            show (((fk k.toNatClampNeg)).toInt64) = v_pair (nI pp) fk fv k what
            first | (simp only [v_pair, h1, h2, h3, h4, h5, if_true, if_false, eq_self, not_true_eq_false, not_false_eq_true, ne_eq]; done) | (simp only [v_pair, h1, h2, h3, h4, h5, if_true, if_false, eq_self, not_true_eq_false, not_false_eq_true, ne_eq]; rfl) | (simp [v_pair, h1, h2, h3, h4, h5]; done)
        · -- ¬ what ≤ 1
          refine lv_ldc2 (v := 1099511627776) hx hb hown (hts _ k_428) d_Model_pair_21 ?_
          refine W.lret hx hb hr (fun t ht hW => ⟨_, rfl, ?_, ht⟩) (fun q h => by cases h) d_Model_pair_24
          show 1099511627776 = v_pair (nI pp) fk fv k what
          first | (simp only [v_pair, h1, h2, h3, h4, if_true, if_false, eq_self, not_true_eq_false, not_false_eq_true, ne_eq]; done) | (simp only [v_pair, h1, h2, h3, h4, if_true, if_false, eq_self, not_true_eq_false, not_false_eq_true, ne_eq]; rfl) | (simp [v_pair, h1, h2, h3, h4]; done)
set_option maxHeartbeats 4000000 in
set_option maxRecDepth 100000 in
theorem c_Model_fill (l : Launch) (D : va_G) (cI cZ : ClassId) (hz : Nat) (mo mp mq mr mw mt ml mk mv : Nat) (kd : Int32) (n : Nat) (fo fn fR fW fs fl fk fv : Nat → Int32) (em sp rs : Int32) (hk : kd = 0 ∨ kd = 1 ∨ kd = 2 ∨ kd = 3) (hn : n ≤ 64) (h0n : 0 < n) : Met l y_Model_fill w_Model_fill (rmk 2) (va_Pc [.ref mo] (MY D cI cZ [(mo, .inr (4, [.int kd, .ref mp, .ref mq, .int (nI n), .ref mr, .ref mw, .ref mt, .ref ml, .ref mk, .ref mv, .int em, .int sp, .int rs])), (mp, .inl (cI, 64, .inl fo)), (mq, .inl (cI, 64, .inl fn)), (mr, .inl (cI, 576, .inl fR)), (mw, .inl (cZ, 64, .inl fW)), (mt, .inl (cI, 8, .inl fs)), (ml, .inl (cI, 4, .inl fl)), (mk, .inl (cI, 20, .inl fk)), (mv, .inl (cI, 20, .inl fv))] hz)) (va_Qv (fun u : (Nat → Int32) × (Nat → Int32) => FillR kd (acOf kd) n fo fn u.1 u.2) (fun u t => ME D (va_A [(mo, .inr (4, [.int kd, .ref mp, .ref mq, .int (nI n), .ref mr, .ref mw, .ref mt, .ref ml, .ref mk, .ref mv, .int em, .int sp, .int rs])), (mp, .inl (cI, 64, .inl fo)), (mq, .inl (cI, 64, .inl fn)), (mr, .inl (cI, 576, .inl fR)), (mw, .inl (cZ, 64, .inl fW)), (mt, .inl (cI, 8, .inl fs)), (ml, .inl (cI, 4, .inl fl)), (mk, .inl (cI, 20, .inl fk)), (mv, .inl (cI, 20, .inl fv))] hz) [(mo, .inr (4, [.int kd, .ref mp, .ref mq, .int (nI n), .ref mr, .ref mw, .ref mt, .ref ml, .ref mk, .ref mv, .int em, .int sp, .int rs])), (mp, .inl (cI, 64, .inl fo)), (mq, .inl (cI, 64, .inl fn)), (mr, .inl (cI, 576, .inl u.1)), (mw, .inl (cZ, 64, .inl u.2)), (mt, .inl (cI, 8, .inl fs)), (ml, .inl (cI, 4, .inl fl)), (mk, .inl (cI, 20, .inl fk)), (mv, .inl (cI, 20, .inl fv))] t) (va_A [(mo, .inr (4, [.int kd, .ref mp, .ref mq, .int (nI n), .ref mr, .ref mw, .ref mt, .ref ml, .ref mk, .ref mv, .int em, .int sp, .int rs])), (mp, .inl (cI, 64, .inl fo)), (mq, .inl (cI, 64, .inl fn)), (mr, .inl (cI, 576, .inl fR)), (mw, .inl (cZ, 64, .inl fW)), (mt, .inl (cI, 8, .inl fs)), (ml, .inl (cI, 4, .inl fl)), (mk, .inl (cI, 20, .inl fk)), (mv, .inl (cI, 20, .inl fv))] hz)) 0 0 (va_A [(mo, .inr (4, [.int kd, .ref mp, .ref mq, .int (nI n), .ref mr, .ref mw, .ref mt, .ref ml, .ref mk, .ref mv, .int em, .int sp, .int rs])), (mp, .inl (cI, 64, .inl fo)), (mq, .inl (cI, 64, .inl fn)), (mr, .inl (cI, 576, .inl fR)), (mw, .inl (cZ, 64, .inl fW)), (mt, .inl (cI, 8, .inl fs)), (ml, .inl (cI, 4, .inl fl)), (mk, .inl (cI, 20, .inl fk)), (mv, .inl (cI, 20, .inl fv))] hz) := by
  refine Met.ofW (cc := b_Model_fill) (maxL := 3) (ret := none) (by decide) rfl ?_
  intro p e s m args below meth c s₁ B hml hv
  obtain ⟨rfl, hsz, hP, hE, hD0⟩ := hv
  have hx := B.exec
  have hb := B.bytes
  have hr := B.returns
  have hts : ∀ w ∈ gW, w.before _ s = true := fun w h => atoms_spec (ws := w_Model_fill) B.pre w (List.mem_cons_of_mem _ h)
  have hown : s.vm.findClass R_Model = some m.cls := findClass_of_methodNamed B.named
  have hlocks := B.notSynchronized
  subst hsz
  have hD := hD0.self (sz := s.heap.size)
  have hA : ∀ q : Nat, s.heap.size ≤ q → va_A [(mo, .inr (4, [.int kd, .ref mp, .ref mq, .int (nI n), .ref mr, .ref mw, .ref mt, .ref ml, .ref mk, .ref mv, .int em, .int sp, .int rs])), (mp, .inl (cI, 64, .inl fo)), (mq, .inl (cI, 64, .inl fn)), (mr, .inl (cI, 576, .inl fR)), (mw, .inl (cZ, 64, .inl fW)), (mt, .inl (cI, 8, .inl fs)), (ml, .inl (cI, 4, .inl fl)), (mk, .inl (cI, 20, .inl fk)), (mv, .inl (cI, 20, .inl fv))] s.heap.size q := fun q h => Or.inr h
  generalize va_A [(mo, .inr (4, [.int kd, .ref mp, .ref mq, .int (nI n), .ref mr, .ref mw, .ref mt, .ref ml, .ref mk, .ref mv, .int em, .int sp, .int rs])), (mp, .inl (cI, 64, .inl fo)), (mq, .inl (cI, 64, .inl fn)), (mr, .inl (cI, 576, .inl fR)), (mw, .inl (cZ, 64, .inl fW)), (mt, .inl (cI, 8, .inl fs)), (ml, .inl (cI, 4, .inl fl)), (mk, .inl (cI, 20, .inl fk)), (mv, .inl (cI, 20, .inl fv))] s.heap.size = A at hD hA ⊢
  have hS : va_S A s.heap s.heap [] := va_S.rf
  have hP : va_P D classes [(mo, .inr (4, [.int kd, .ref mp, .ref mq, .int (nI n), .ref mr, .ref mw, .ref mt, .ref ml, .ref mk, .ref mv, .int em, .int sp, .int rs])), (mp, .inl (cI, 64, .inl fo)), (mq, .inl (cI, 64, .inl fn)), (mr, .inl (cI, 576, .inl fR)), (mw, .inl (cZ, 64, .inl fW)), (mt, .inl (cI, 8, .inl fs)), (ml, .inl (cI, 4, .inl fl)), (mk, .inl (cI, 20, .inl fk)), (mv, .inl (cI, 20, .inl fv))] s.heap := hP
  have hD : va_D A [(mo, .inr (4, [.int kd, .ref mp, .ref mq, .int (nI n), .ref mr, .ref mw, .ref mt, .ref ml, .ref mk, .ref mv, .int em, .int sp, .int rs])), (mp, .inl (cI, 64, .inl fo)), (mq, .inl (cI, 64, .inl fn)), (mr, .inl (cI, 576, .inl fR)), (mw, .inl (cZ, 64, .inl fW)), (mt, .inl (cI, 8, .inl fs)), (ml, .inl (cI, 4, .inl fl)), (mk, .inl (cI, 20, .inl fk)), (mv, .inl (cI, 20, .inl fv))] := hD
  have hl := lv_entry ([.ref mo]) (n := 3) (Nat.le_of_ble_eq_true rfl)
  rw [lg_entry_eq]
  generalize (lg_sl ([.ref mo]) ++ List.replicate (3 - (lg_sl ([.ref mo])).length) Slot.unset).toArray = ls at hl ⊢
  have hl : lv_has ls 3 [(0, .ref mo)] := hl
  refine lv_iconst (v := 0) hx hb d_Model_fill_0 (by decide) ?_
  refine lv_istore_n hx hb d_Model_fill_1 rfl hl (by decide) rfl (fun ls hl => ?_)
  have hl : lv_has ls 3 [(1, .int 0), (0, .ref mo)] := hl
  have key : ∀ (N : Nat) (j : Nat) (g : Nat → Int32) (H : Heap) (locs : List Loc) (ls : Array Slot), j + N = 576 → lv_has ls 3 [(1, .int (nI j)), (0, .ref mo)] → va_P D classes [(mo, .inr (4, [.int kd, .ref mp, .ref mq, .int (nI n), .ref mr, .ref mw, .ref mt, .ref ml, .ref mk, .ref mv, .int em, .int sp, .int rs])), (mp, .inl (cI, 64, .inl fo)), (mq, .inl (cI, 64, .inl fn)), (mr, .inl (cI, 576, .inl g)), (mw, .inl (cZ, 64, .inl fW)), (mt, .inl (cI, 8, .inl fs)), (ml, .inl (cI, 4, .inl fl)), (mk, .inl (cI, 20, .inl fk)), (mv, .inl (cI, 20, .inl fv))] H → va_D A [(mo, .inr (4, [.int kd, .ref mp, .ref mq, .int (nI n), .ref mr, .ref mw, .ref mt, .ref ml, .ref mk, .ref mv, .int em, .int sp, .int rs])), (mp, .inl (cI, 64, .inl fo)), (mq, .inl (cI, 64, .inl fn)), (mr, .inl (cI, 576, .inl g)), (mw, .inl (cZ, 64, .inl fW)), (mt, .inl (cI, 8, .inl fs)), (ml, .inl (cI, 4, .inl fl)), (mk, .inl (cI, 20, .inl fk)), (mv, .inl (cI, 20, .inl fv))] → (∀ i, i < j → g i = 0) → va_S A s.heap H locs → W p l e (headSpec w_Model_fill (rmk 2)).room s m ([.ref mo] : List Value).toArray below meth c H locs 0 0 (MQ below (va_Qv (fun u : (Nat → Int32) × (Nat → Int32) => FillR kd (acOf kd) n fo fn u.1 u.2) (fun u t => ME D A [(mo, .inr (4, [.int kd, .ref mp, .ref mq, .int (nI n), .ref mr, .ref mw, .ref mt, .ref ml, .ref mk, .ref mv, .int em, .int sp, .int rs])), (mp, .inl (cI, 64, .inl fo)), (mq, .inl (cI, 64, .inl fn)), (mr, .inl (cI, 576, .inl u.1)), (mw, .inl (cZ, 64, .inl u.2)), (mt, .inl (cI, 8, .inl fs)), (ml, .inl (cI, 4, .inl fl)), (mk, .inl (cI, 20, .inl fk)), (mv, .inl (cI, 20, .inl fv))] t) A) ([.ref mo] : List Value).toArray s 0 0 A) (F0 m 2 ls []) := by
    intro N
    induction N with
    | zero =>
      intro j g H locs ls hjN hl hP hD hg hS
      refine lv_iload_n hx hb d_Model_fill_2 rfl (lv_at hl 0 rfl) ?_
      refine lv_aload_n hx hb d_Model_fill_3 rfl (lv_at hl 1 rfl) ?_
      refine va_get (D := D) (ci := 4) (v := .ref mr) (C := R_Model) (T := F_Model) (N := 13) hx hb hts in_Model hown hE.1 hP 0 rfl rfl 4 (by decide) (hts _ k_320) (fun _ h9 => h9) rfl d_Model_fill_4 ?_
      refine va_alen (v := (nI 576)) hx hb hE.1 hP 3 0 rfl rfl rfl d_Model_fill_7 ?_
      refine lv_icmp_ge (tgt := 24) hx hb d_Model_fill_8 (by decide) (fun h1 => ?_) (fun h1 => ?_)
      · -- (nI 576) ≤ (nI j)
        refine lv_iconst (v := 0) hx hb d_Model_fill_24 (by decide) ?_
        refine lv_istore_n hx hb d_Model_fill_25 rfl hl (by decide) rfl (fun ls hl => ?_)
        have hl : lv_has ls 3 [(1, .int 0), (0, .ref mo)] := hl
        have hg : ∀ i, i < 576 → g i = 0 := fun i hi => hg i (by omega)
        have key2 : ∀ (M : Nat) (q : Nat) (y : Nat → Int32) (H : Heap) (locs : List Loc) (ls : Array Slot), q + M = n → lv_has ls 3 [(1, .int (nI q)), (0, .ref mo)] → va_P D classes [(mo, .inr (4, [.int kd, .ref mp, .ref mq, .int (nI n), .ref mr, .ref mw, .ref mt, .ref ml, .ref mk, .ref mv, .int em, .int sp, .int rs])), (mp, .inl (cI, 64, .inl fo)), (mq, .inl (cI, 64, .inl fn)), (mr, .inl (cI, 576, .inl g)), (mw, .inl (cZ, 64, .inl y)), (mt, .inl (cI, 8, .inl fs)), (ml, .inl (cI, 4, .inl fl)), (mk, .inl (cI, 20, .inl fk)), (mv, .inl (cI, 20, .inl fv))] H → va_D A [(mo, .inr (4, [.int kd, .ref mp, .ref mq, .int (nI n), .ref mr, .ref mw, .ref mt, .ref ml, .ref mk, .ref mv, .int em, .int sp, .int rs])), (mp, .inl (cI, 64, .inl fo)), (mq, .inl (cI, 64, .inl fn)), (mr, .inl (cI, 576, .inl g)), (mw, .inl (cZ, 64, .inl y)), (mt, .inl (cI, 8, .inl fs)), (ml, .inl (cI, 4, .inl fl)), (mk, .inl (cI, 20, .inl fk)), (mv, .inl (cI, 20, .inl fv))] → (∀ i, i < q → y i = if p_wf kd (nI n) (acOf kd) fo fn (nI i) = 0 then 1 else 0) → va_S A s.heap H locs → W p l e (headSpec w_Model_fill (rmk 2)).room s m ([.ref mo] : List Value).toArray below meth c H locs 0 0 (MQ below (va_Qv (fun u : (Nat → Int32) × (Nat → Int32) => FillR kd (acOf kd) n fo fn u.1 u.2) (fun u t => ME D A [(mo, .inr (4, [.int kd, .ref mp, .ref mq, .int (nI n), .ref mr, .ref mw, .ref mt, .ref ml, .ref mk, .ref mv, .int em, .int sp, .int rs])), (mp, .inl (cI, 64, .inl fo)), (mq, .inl (cI, 64, .inl fn)), (mr, .inl (cI, 576, .inl u.1)), (mw, .inl (cZ, 64, .inl u.2)), (mt, .inl (cI, 8, .inl fs)), (ml, .inl (cI, 4, .inl fl)), (mk, .inl (cI, 20, .inl fk)), (mv, .inl (cI, 20, .inl fv))] t) A) ([.ref mo] : List Value).toArray s 0 0 A) (F0 m 26 ls []) := by
          intro M
          induction M with
          | zero =>
            intro q y H locs ls hqN hl hP hD hw hS
            refine lv_iload_n hx hb d_Model_fill_26 rfl (lv_at hl 0 rfl) ?_
            refine lv_aload_n hx hb d_Model_fill_27 rfl (lv_at hl 1 rfl) ?_
            refine va_get (D := D) (ci := 4) (v := .int (nI n)) (C := R_Model) (T := F_Model) (N := 13) hx hb hts in_Model hown hE.1 hP 0 rfl rfl 3 (by decide) (hts _ k_319) (fun _ h9 => h9) rfl d_Model_fill_28 ?_
            refine lv_icmp_ge (tgt := 51) hx hb d_Model_fill_31 (by decide) (fun h2 => ?_) (fun h2 => ?_)
            · -- (nI n) ≤ (nI q)
              refine lv_aload_n hx hb d_Model_fill_51 rfl (lv_at hl 1 rfl) ?_
              refine va_get (D := D) (ci := 4) (v := .int (nI n)) (C := R_Model) (T := F_Model) (N := 13) hx hb hts in_Model hown hE.1 hP 0 rfl rfl 3 (by decide) (hts _ k_319) (fun _ h9 => h9) rfl d_Model_fill_52 ?_
              refine lv_if_le (tgt := 65) hx hb d_Model_fill_55 (by decide) (fun h3 => ?_) (fun h3 => ?_)
              · -- (nI n) ≤ 0
                exact absurd h3 (nI_nle h0n (by omega))
              · -- ¬ (nI n) ≤ 0
                refine lv_aload_n hx hb d_Model_fill_58 rfl (lv_at hl 1 rfl) ?_
                refine va_get (D := D) (ci := 4) (v := .ref mr) (C := R_Model) (T := F_Model) (N := 13) hx hb hts in_Model hown hE.1 hP 0 rfl rfl 4 (by decide) (hts _ k_320) (fun _ h9 => h9) rfl d_Model_fill_59 ?_
                refine lv_iconst (v := 0) hx hb d_Model_fill_62 (by decide) ?_
                refine lv_iconst (v := 1) hx hb d_Model_fill_63 (by decide) ?_
                refine va_iast hx hb hE.1 hP hD hS 3 0 rfl rfl (vp_in_nI (n := 0) (by omega) (by decide)) d_Model_fill_64 (fun H locs hP hD hS => ?_)
                have hP : va_P D classes [(mo, .inr (4, [.int kd, .ref mp, .ref mq, .int (nI n), .ref mr, .ref mw, .ref mt, .ref ml, .ref mk, .ref mv, .int em, .int sp, .int rs])), (mp, .inl (cI, 64, .inl fo)), (mq, .inl (cI, 64, .inl fn)), (mr, .inl (cI, 576, .inl (upd g 0 1))), (mw, .inl (cZ, 64, .inl y)), (mt, .inl (cI, 8, .inl fs)), (ml, .inl (cI, 4, .inl fl)), (mk, .inl (cI, 20, .inl fk)), (mv, .inl (cI, 20, .inl fv))] H := hP
                have hD : va_D A [(mo, .inr (4, [.int kd, .ref mp, .ref mq, .int (nI n), .ref mr, .ref mw, .ref mt, .ref ml, .ref mk, .ref mv, .int em, .int sp, .int rs])), (mp, .inl (cI, 64, .inl fo)), (mq, .inl (cI, 64, .inl fn)), (mr, .inl (cI, 576, .inl (upd g 0 1))), (mw, .inl (cZ, 64, .inl y)), (mt, .inl (cI, 8, .inl fs)), (ml, .inl (cI, 4, .inl fl)), (mk, .inl (cI, 20, .inl fk)), (mv, .inl (cI, 20, .inl fv))] := hD
                refine lv_iconst (v := 1) hx hb d_Model_fill_65 (by decide) ?_
                refine lv_istore_n hx hb d_Model_fill_66 rfl hl (by decide) rfl (fun ls hl => ?_)
                have hl : lv_has ls 3 [(1, .int 1), (0, .ref mo)] := hl
                have hI := init_RI (kd := kd) (ac := acOf kd) (fo := fo) (fn := fn) hn h0n hg (fun i hi => hw i (by omega))
                have key0 : ∀ (K : Nat) (r1 : Nat → Nat) (f1 f2 : Nat → Int32) (mr1 : Int32) (H : Heap) (locs : List Loc) (ls : Array Slot), lv_has ls 3 [(1, .int mr1), (0, .ref mo)] → va_P D classes [(mo, .inr (4, [.int kd, .ref mp, .ref mq, .int (nI n), .ref mr, .ref mw, .ref mt, .ref ml, .ref mk, .ref mv, .int em, .int sp, .int rs])), (mp, .inl (cI, 64, .inl fo)), (mq, .inl (cI, 64, .inl fn)), (mr, .inl (cI, 576, .inl f1)), (mw, .inl (cZ, 64, .inl f2)), (mt, .inl (cI, 8, .inl fs)), (ml, .inl (cI, 4, .inl fl)), (mk, .inl (cI, 20, .inl fk)), (mv, .inl (cI, 20, .inl fv))] H → va_D A [(mo, .inr (4, [.int kd, .ref mp, .ref mq, .int (nI n), .ref mr, .ref mw, .ref mt, .ref ml, .ref mk, .ref mv, .int em, .int sp, .int rs])), (mp, .inl (cI, 64, .inl fo)), (mq, .inl (cI, 64, .inl fn)), (mr, .inl (cI, 576, .inl f1)), (mw, .inl (cZ, 64, .inl f2)), (mt, .inl (cI, 8, .inl fs)), (ml, .inl (cI, 4, .inl fl)), (mk, .inl (cI, 20, .inl fk)), (mv, .inl (cI, 20, .inl fv))] → RI kd (acOf kd) n fo fn (fun _ => False) r1 f1 f2 → ((mr1 = 1 ∧ 576 - cnt2 r1 < K) ∨ (mr1 = 0 ∧ ∀ e, e < 9 * n → ¬ r1 e = 1)) → va_S A s.heap H locs → W p l e (headSpec w_Model_fill (rmk 2)).room s m ([.ref mo] : List Value).toArray below meth c H locs 0 0 (MQ below (va_Qv (fun u : (Nat → Int32) × (Nat → Int32) => FillR kd (acOf kd) n fo fn u.1 u.2) (fun u t => ME D A [(mo, .inr (4, [.int kd, .ref mp, .ref mq, .int (nI n), .ref mr, .ref mw, .ref mt, .ref ml, .ref mk, .ref mv, .int em, .int sp, .int rs])), (mp, .inl (cI, 64, .inl fo)), (mq, .inl (cI, 64, .inl fn)), (mr, .inl (cI, 576, .inl u.1)), (mw, .inl (cZ, 64, .inl u.2)), (mt, .inl (cI, 8, .inl fs)), (ml, .inl (cI, 4, .inl fl)), (mk, .inl (cI, 20, .inl fk)), (mv, .inl (cI, 20, .inl fv))] t) A) ([.ref mo] : List Value).toArray s 0 0 A) (F0 m 67 ls []) := by
                  intro K
                  induction K with
                  | zero =>
                    intro r1 f1 f2 mr1 H locs ls hl hP hD hI hm hS
                    refine lv_iload_n hx hb d_Model_fill_67 rfl (lv_at hl 0 rfl) ?_
                    refine lv_if_eq (tgt := 129) hx hb d_Model_fill_68 (by decide) (fun h4 => ?_) (fun h4 => ?_)
                    · -- mr1 = 0
                      refine W.vret hx hb hr (fun t ht hW => ⟨⟨(f1, f2), rfl, ?_, ?_⟩, hS.F ht⟩) hS.2.2 d_Model_fill_129
                      · exact fill_ok h0n hn hI (by rcases hm with hm | hm; exact absurd (hm.1.symm.trans h4) (by decide); exact hm.2)
                      · exact ⟨by rw [ht]; exact hP.sub [0, 1, 2, 3, 4, 5, 6, 7, 8] rfl, hD.sub [0, 1, 2, 3, 4, 5, 6, 7, 8] (by decide) rfl⟩
                    · -- ¬ mr1 = 0
                      (rcases hm with hm | hm; exact absurd hm.2 (Nat.not_lt_zero _); exact absurd hm.1 h4)
                  | succ K ih0 =>
                    intro r1 f1 f2 mr1 H locs ls hl hP hD hI hm hS
                    refine lv_iload_n hx hb d_Model_fill_67 rfl (lv_at hl 0 rfl) ?_
                    refine lv_if_eq (tgt := 129) hx hb d_Model_fill_68 (by decide) (fun h5 => ?_) (fun h5 => ?_)
                    · -- mr1 = 0
                      refine W.vret hx hb hr (fun t ht hW => ⟨⟨(f1, f2), rfl, ?_, ?_⟩, hS.F ht⟩) hS.2.2 d_Model_fill_129
                      · exact fill_ok h0n hn hI (by rcases hm with hm | hm; exact absurd (hm.1.symm.trans h5) (by decide); exact hm.2)
                      · exact ⟨by rw [ht]; exact hP.sub [0, 1, 2, 3, 4, 5, 6, 7, 8] rfl, hD.sub [0, 1, 2, 3, 4, 5, 6, 7, 8] (by decide) rfl⟩
                    · -- ¬ mr1 = 0
                      have hm : mr1 = 1 ∧ 576 - cnt2 r1 < K + 1 := hm.resolve_right (fun q => h5 q.1)
                      refine lv_iconst (v := 0) hx hb d_Model_fill_71 (by decide) ?_
                      refine lv_istore_n hx hb d_Model_fill_72 rfl hl (by decide) rfl (fun ls hl => ?_)
                      have hl : lv_has ls 3 [(1, .int 0), (0, .ref mo)] := hl
                      refine lv_iconst (v := 0) hx hb d_Model_fill_73 (by decide) ?_
                      refine lv_istore_n hx hb d_Model_fill_74 rfl hl (by decide) rfl (fun ls hl => ?_)
                      have hl : lv_has ls 3 [(2, .int 0), (1, .int 0), (0, .ref mo)] := hl
                      have key3 : ∀ (P : Nat) (j3 : Nat) (r3 : Nat → Nat) (f3 f4 : Nat → Int32) (mr3 : Int32) (H : Heap) (locs : List Loc) (ls : Array Slot), j3 + P = 9 * n → lv_has ls 3 [(2, .int (nI j3)), (1, .int mr3), (0, .ref mo)] → va_P D classes [(mo, .inr (4, [.int kd, .ref mp, .ref mq, .int (nI n), .ref mr, .ref mw, .ref mt, .ref ml, .ref mk, .ref mv, .int em, .int sp, .int rs])), (mp, .inl (cI, 64, .inl fo)), (mq, .inl (cI, 64, .inl fn)), (mr, .inl (cI, 576, .inl f3)), (mw, .inl (cZ, 64, .inl f4)), (mt, .inl (cI, 8, .inl fs)), (ml, .inl (cI, 4, .inl fl)), (mk, .inl (cI, 20, .inl fk)), (mv, .inl (cI, 20, .inl fv))] H → va_D A [(mo, .inr (4, [.int kd, .ref mp, .ref mq, .int (nI n), .ref mr, .ref mw, .ref mt, .ref ml, .ref mk, .ref mv, .int em, .int sp, .int rs])), (mp, .inl (cI, 64, .inl fo)), (mq, .inl (cI, 64, .inl fn)), (mr, .inl (cI, 576, .inl f3)), (mw, .inl (cZ, 64, .inl f4)), (mt, .inl (cI, 8, .inl fs)), (ml, .inl (cI, 4, .inl fl)), (mk, .inl (cI, 20, .inl fk)), (mv, .inl (cI, 20, .inl fv))] → RI kd (acOf kd) n fo fn (fun _ => False) r3 f3 f4 → ((mr3 = 0 ∧ (∀ e, e < j3 → ¬ r3 e = 1) ∧ cnt2 r1 ≤ cnt2 r3) ∨ (mr3 = 1 ∧ cnt2 r1 < cnt2 r3)) → va_S A s.heap H locs → W p l e (headSpec w_Model_fill (rmk 2)).room s m ([.ref mo] : List Value).toArray below meth c H locs 0 0 (MQ below (va_Qv (fun u : (Nat → Int32) × (Nat → Int32) => FillR kd (acOf kd) n fo fn u.1 u.2) (fun u t => ME D A [(mo, .inr (4, [.int kd, .ref mp, .ref mq, .int (nI n), .ref mr, .ref mw, .ref mt, .ref ml, .ref mk, .ref mv, .int em, .int sp, .int rs])), (mp, .inl (cI, 64, .inl fo)), (mq, .inl (cI, 64, .inl fn)), (mr, .inl (cI, 576, .inl u.1)), (mw, .inl (cZ, 64, .inl u.2)), (mt, .inl (cI, 8, .inl fs)), (ml, .inl (cI, 4, .inl fl)), (mk, .inl (cI, 20, .inl fk)), (mv, .inl (cI, 20, .inl fv))] t) A) ([.ref mo] : List Value).toArray s 0 0 A) (F0 m 75 ls []) := by
                        intro P
                        induction P with
                        | zero =>
                          intro j3 r3 f3 f4 mr3 H locs ls hjN hl hP hD hI hq hS
                          refine lv_iload_n hx hb d_Model_fill_75 rfl (lv_at hl 0 rfl) ?_
                          refine lv_bipush (v := 9) hx hb d_Model_fill_76 (by decide) ?_
                          refine lv_aload_n hx hb d_Model_fill_78 rfl (lv_at hl 2 rfl) ?_
                          refine va_get (D := D) (ci := 4) (v := .int (nI n)) (C := R_Model) (T := F_Model) (N := 13) hx hb hts in_Model hown hE.1 hP 0 rfl rfl 3 (by decide) (hts _ k_319) (fun _ h9 => h9) rfl d_Model_fill_79 ?_
                          refine lv_imul hx hb d_Model_fill_82 ?_
                          refine lv_eqi (y := (nI (9 * n))) (mul9 n) ?_
                          refine lv_icmp_ge (tgt := 126) hx hb d_Model_fill_83 (by decide) (fun h6 => ?_) (fun h6 => ?_)
                          · -- (nI (9 * n)) ≤ (nI j3)
                            refine lv_goto (tgt := 67) hx hb d_Model_fill_126 (by decide) ?_
                            exact ih0 r3 _ _ _ _ _ _ (lv_sub hl [1, 2] rfl) hP hD hI (hq.elim (fun hq => Or.inr ⟨hq.1, fun e he => hq.2.1 e (by omega)⟩) (fun hq => Or.inl ⟨hq.1, by have := cnt2_le r3; omega⟩)) hS
                          · -- ¬ (nI (9 * n)) ≤ (nI j3)
                            exact absurd (nI_le (by omega) (by omega)) h6
                        | succ P ih3 =>
                          intro j3 r3 f3 f4 mr3 H locs ls hjN hl hP hD hI hq hS
                          refine lv_iload_n hx hb d_Model_fill_75 rfl (lv_at hl 0 rfl) ?_
                          refine lv_bipush (v := 9) hx hb d_Model_fill_76 (by decide) ?_
                          refine lv_aload_n hx hb d_Model_fill_78 rfl (lv_at hl 2 rfl) ?_
                          refine va_get (D := D) (ci := 4) (v := .int (nI n)) (C := R_Model) (T := F_Model) (N := 13) hx hb hts in_Model hown hE.1 hP 0 rfl rfl 3 (by decide) (hts _ k_319) (fun _ h9 => h9) rfl d_Model_fill_79 ?_
                          refine lv_imul hx hb d_Model_fill_82 ?_
                          refine lv_eqi (y := (nI (9 * n))) (mul9 n) ?_
                          refine lv_icmp_ge (tgt := 126) hx hb d_Model_fill_83 (by decide) (fun h7 => ?_) (fun h7 => ?_)
                          · -- (nI (9 * n)) ≤ (nI j3)
                            exact absurd h7 (nI_ge (by omega) (by omega))
                          · -- ¬ (nI (9 * n)) ≤ (nI j3)
                            refine lv_aload_n hx hb d_Model_fill_86 rfl (lv_at hl 2 rfl) ?_
                            refine va_get (D := D) (ci := 4) (v := .ref mr) (C := R_Model) (T := F_Model) (N := 13) hx hb hts in_Model hown hE.1 hP 0 rfl rfl 4 (by decide) (hts _ k_320) (fun _ h9 => h9) rfl d_Model_fill_87 ?_
                            refine lv_iload_n hx hb d_Model_fill_90 rfl (lv_at hl 0 rfl) ?_
                            refine va_iald hx hb hE.1 hP 3 0 rfl rfl (vp_in_nI (by omega) (by decide)) d_Model_fill_91 ?_
                            refine lv_eqi (y := f3 j3) (congrArg f3 (nI_clamp (show j3 < 2 ^ 31 by omega))) ?_
                            refine lv_iconst (v := 1) hx hb d_Model_fill_92 (by decide) ?_
                            refine lv_icmp_eq (tgt := 99) hx hb d_Model_fill_93 (by decide) (fun h8 => ?_) (fun h8 => ?_)
                            · -- (f3 j3) = 1
                              have hrj : r3 j3 = 1 := (nI_eq (by have := (hI.1 j3 (by omega)).2; omega) (by omega)).mp (show nI (r3 j3) = nI 1 from (hI.1 j3 (by omega)).1.symm.trans h8)
                              refine lv_aload_n hx hb d_Model_fill_99 rfl (lv_at hl 2 rfl) ?_
                              refine va_get (D := D) (ci := 4) (v := .ref mr) (C := R_Model) (T := F_Model) (N := 13) hx hb hts in_Model hown hE.1 hP 0 rfl rfl 4 (by decide) (hts _ k_320) (fun _ h9 => h9) rfl d_Model_fill_100 ?_
                              refine lv_iload_n hx hb d_Model_fill_103 rfl (lv_at hl 0 rfl) ?_
                              refine lv_iconst (v := 2) hx hb d_Model_fill_104 (by decide) ?_
                              refine va_iast hx hb hE.1 hP hD hS 3 0 rfl rfl (vp_in_nI (by omega) (by decide)) d_Model_fill_105 (fun H locs hP hD hS => ?_)
                              rw [nI_clamp (show j3 < 2 ^ 31 by omega)] at hP hD
                              have hP : va_P D classes [(mo, .inr (4, [.int kd, .ref mp, .ref mq, .int (nI n), .ref mr, .ref mw, .ref mt, .ref ml, .ref mk, .ref mv, .int em, .int sp, .int rs])), (mp, .inl (cI, 64, .inl fo)), (mq, .inl (cI, 64, .inl fn)), (mr, .inl (cI, 576, .inl (upd f3 j3 2))), (mw, .inl (cZ, 64, .inl f4)), (mt, .inl (cI, 8, .inl fs)), (ml, .inl (cI, 4, .inl fl)), (mk, .inl (cI, 20, .inl fk)), (mv, .inl (cI, 20, .inl fv))] H := hP
                              have hD : va_D A [(mo, .inr (4, [.int kd, .ref mp, .ref mq, .int (nI n), .ref mr, .ref mw, .ref mt, .ref ml, .ref mk, .ref mv, .int em, .int sp, .int rs])), (mp, .inl (cI, 64, .inl fo)), (mq, .inl (cI, 64, .inl fn)), (mr, .inl (cI, 576, .inl (upd f3 j3 2))), (mw, .inl (cZ, 64, .inl f4)), (mt, .inl (cI, 8, .inl fs)), (ml, .inl (cI, 4, .inl fl)), (mk, .inl (cI, 20, .inl fk)), (mv, .inl (cI, 20, .inl fv))] := hD
                              refine lv_iconst (v := 1) hx hb d_Model_fill_106 (by decide) ?_
                              refine lv_istore_n hx hb d_Model_fill_107 rfl hl (by decide) rfl (fun ls hl => ?_)
                              have hl : lv_has ls 3 [(1, .int 1), (2, .int (nI j3)), (0, .ref mo)] := hl
                              refine lv_aload_n hx hb d_Model_fill_108 rfl (lv_at hl 2 rfl) ?_
                              refine lv_iload_n hx hb d_Model_fill_109 rfl (lv_at hl 1 rfl) ?_
                              refine lv_bipush (v := 9) hx hb d_Model_fill_110 (by decide) ?_
                              refine lv_idiv hx hb d_Model_fill_112 (by decide) ?_
                              refine lv_eqi (y := (nI (j3 / 9))) (div9 (by omega)) ?_
                              refine lv_iload_n hx hb d_Model_fill_113 rfl (lv_at hl 1 rfl) ?_
                              refine lv_bipush (v := 9) hx hb d_Model_fill_114 (by decide) ?_
                              refine lv_irem hx hb d_Model_fill_116 (by decide) ?_
                              refine lv_eqi (y := (nI (j3 % 9))) (rem9 (by omega)) ?_
                              have hPc := hP.sub (ws' := [(mo, .inr (4, [.int kd, .ref mp, .ref mq, .int (nI n), .ref mr, .ref mw, .ref mt, .ref ml, .ref mk, .ref mv, .int em, .int sp, .int rs])), (mp, .inl (cI, 64, .inl fo)), (mq, .inl (cI, 64, .inl fn)), (mr, .inl (cI, 576, .inl (upd f3 j3 2))), (mw, .inl (cZ, 64, .inl f4)), (mt, .inl (cI, 8, .inl fs)), (ml, .inl (cI, 4, .inl fl)), (mk, .inl (cI, 20, .inl fk)), (mv, .inl (cI, 20, .inl fv))]) [0, 1, 2, 3, 4, 5, 6, 7, 8] rfl
                              have hDc := hD.sub (ws' := [(mo, .inr (4, [.int kd, .ref mp, .ref mq, .int (nI n), .ref mr, .ref mw, .ref mt, .ref ml, .ref mk, .ref mv, .int em, .int sp, .int rs])), (mp, .inl (cI, 64, .inl fo)), (mq, .inl (cI, 64, .inl fn)), (mr, .inl (cI, 576, .inl (upd f3 j3 2))), (mw, .inl (cZ, 64, .inl f4)), (mt, .inl (cI, 8, .inl fs)), (ml, .inl (cI, 4, .inl fl)), (mk, .inl (cI, 20, .inl fk)), (mv, .inl (cI, 20, .inl fv))]) [0, 1, 2, 3, 4, 5, 6, 7, 8] (by decide) rfl
                              have hFc := va_free (wc := [(mo, .inr (4, [.int kd, .ref mp, .ref mq, .int (nI n), .ref mr, .ref mw, .ref mt, .ref ml, .ref mk, .ref mv, .int em, .int sp, .int rs])), (mp, .inl (cI, 64, .inl fo)), (mq, .inl (cI, 64, .inl fn)), (mr, .inl (cI, 576, .inl (upd f3 j3 2))), (mw, .inl (cZ, 64, .inl f4)), (mt, .inl (cI, 8, .inl fs)), (ml, .inl (cI, 4, .inl fl)), (mk, .inl (cI, 20, .inl fk)), (mv, .inl (cI, 20, .inl fv))]) hD hS hA [0, 1, 2, 3, 4, 5, 6, 7, 8] rfl
                              refine va_callv (va_runV (As := [.int (nI (j3 / 9)), .int (nI (j3 % 9))]) (rest := []) ⟨hx, hb, hml, hown, hts⟩ (c_Model_goOn l D cI cZ H.size mo mp mq mr mw mt ml mk mv kd n fo fn (upd f3 j3 2) f4 fs fl fk fv em sp rs (j3 / 9) (j3 % 9) hk hn (by omega) (by omega)) (cwV 2 hts (gd4 k_381 k_383 k_13 k_22 k_384) rfl rfl rfl (by decide +kernel) ⟨Nat.le_of_ble_eq_true rfl, Nat.le_of_ble_eq_true rfl⟩) ⟨MY_blind, va_recv (q0 := 0) (ci := 4) hE.1 hP rfl rfl, my_pre hE hPc hDc⟩ rfl rfl hl.1 rfl (lv_room (Nat.le_of_ble_eq_true rfl)) d_Model_fill_117 ⟨Nat.zero_le _, Nat.zero_le _⟩) hS (fun q _ h => hFc q h) hFc (fun u t H1 locs ht hvm hw hB hz1 hk1 hS => ?_)
                              obtain ⟨hP1, hD1⟩ := hB
                              rw [ht] at hP1
                              obtain ⟨f5, f6⟩ := u
                              have hG := hw
                              obtain ⟨hP, hD⟩ := va_join (wr := []) (w1 := [(mo, .inr (4, [.int kd, .ref mp, .ref mq, .int (nI n), .ref mr, .ref mw, .ref mt, .ref ml, .ref mk, .ref mv, .int em, .int sp, .int rs])), (mp, .inl (cI, 64, .inl fo)), (mq, .inl (cI, 64, .inl fn)), (mr, .inl (cI, 576, .inl f5)), (mw, .inl (cZ, 64, .inl f6)), (mt, .inl (cI, 8, .inl fs)), (ml, .inl (cI, 4, .inl fl)), (mk, .inl (cI, 20, .inl fk)), (mv, .inl (cI, 20, .inl fv))]) hP hD [0, 1, 2, 3, 4, 5, 6, 7, 8] [] rfl rfl (by decide) (by decide) hk1 hFc hP1 hD1
                              generalize H1 = H at hP hS ⊢
                              have hP : va_P D classes [(mo, .inr (4, [.int kd, .ref mp, .ref mq, .int (nI n), .ref mr, .ref mw, .ref mt, .ref ml, .ref mk, .ref mv, .int em, .int sp, .int rs])), (mp, .inl (cI, 64, .inl fo)), (mq, .inl (cI, 64, .inl fn)), (mr, .inl (cI, 576, .inl f5)), (mw, .inl (cZ, 64, .inl f6)), (mt, .inl (cI, 8, .inl fs)), (ml, .inl (cI, 4, .inl fl)), (mk, .inl (cI, 20, .inl fk)), (mv, .inl (cI, 20, .inl fv))] H := hP
                              have hD : va_D A [(mo, .inr (4, [.int kd, .ref mp, .ref mq, .int (nI n), .ref mr, .ref mw, .ref mt, .ref ml, .ref mk, .ref mv, .int em, .int sp, .int rs])), (mp, .inl (cI, 64, .inl fo)), (mq, .inl (cI, 64, .inl fn)), (mr, .inl (cI, 576, .inl f5)), (mw, .inl (cZ, 64, .inl f6)), (mt, .inl (cI, 8, .inl fs)), (ml, .inl (cI, 4, .inl fl)), (mk, .inl (cI, 20, .inl fk)), (mv, .inl (cI, 20, .inl fv))] := hD
                              refine lv_iinc (v := ((nI j3) + 1)) (k := 1) hx hb d_Model_fill_120 hl rfl rfl (by decide) rfl (fun ls hl => ?_)
                              have hl : lv_has ls 3 [(2, .int ((nI j3) + 1)), (1, .int 1), (0, .ref mo)] := hl
                              refine lv_goto (tgt := 75) hx hb d_Model_fill_123 (by decide) ?_
                              rw [nI_1] at hl
                              obtain ⟨r4, hI4, h24⟩ := go_ok hn (by omega) (by omega) (hI.2.1 j3 (by omega) (by rw [hrj]; decide)) (mark_RI hn (by omega) hI hrj) hG
                              have hc4 : cnt2 r4 = cnt2 r3 + 1 := by rw [cnt2_congr h24, cnt2_up (by omega) (by rw [hrj]; decide)]
                              exact ih3 (j3 + 1) r4 _ _ 1 _ _ _ (by omega) (lv_sub hl [0, 1, 2] rfl) hP hD hI4 (Or.inr ⟨rfl, by rcases hq with hq | hq <;> omega⟩) hS
                            · -- ¬ (f3 j3) = 1
                              refine lv_goto (tgt := 120) hx hb d_Model_fill_96 (by decide) ?_
                              refine lv_iinc (v := ((nI j3) + 1)) (k := 0) hx hb d_Model_fill_120 hl rfl rfl (by decide) rfl (fun ls hl => ?_)
                              have hl : lv_has ls 3 [(2, .int ((nI j3) + 1)), (1, .int mr3), (0, .ref mo)] := hl
                              refine lv_goto (tgt := 75) hx hb d_Model_fill_123 (by decide) ?_
                              rw [nI_1] at hl
                              exact ih3 (j3 + 1) r3 _ _ _ _ _ _ (by omega) (lv_sub hl [0, 1, 2] rfl) hP hD hI (hq.imp (fun hq => ⟨hq.1, fun e he => by
                                by_cases q : e = j3
                                · rw [q]; exact fun z => h8 (by rw [(hI.1 j3 (by omega)).1, z]; rfl)
                                · exact hq.2.1 e (by omega), hq.2.2⟩) (fun hq => hq)) hS
                      exact key3 (9 * n) 0 _ _ _ 0 H locs ls (Nat.zero_add _) (lv_sub hl [0, 1, 2] rfl) hP hD hI (Or.inl ⟨rfl, fun e h => absurd h (Nat.not_lt_zero e), Nat.le_refl _⟩) hS
                exact key0 577 _ _ _ 1 H locs ls (lv_sub hl [0, 1] rfl) hP hD hI (Or.inl ⟨rfl, by omega⟩) hS
            · -- ¬ (nI n) ≤ (nI q)
              exact absurd (nI_le (by omega) (by omega)) h2
          | succ M ih2 =>
            intro q y H locs ls hqN hl hP hD hw hS
            refine lv_iload_n hx hb d_Model_fill_26 rfl (lv_at hl 0 rfl) ?_
            refine lv_aload_n hx hb d_Model_fill_27 rfl (lv_at hl 1 rfl) ?_
            refine va_get (D := D) (ci := 4) (v := .int (nI n)) (C := R_Model) (T := F_Model) (N := 13) hx hb hts in_Model hown hE.1 hP 0 rfl rfl 3 (by decide) (hts _ k_319) (fun _ h9 => h9) rfl d_Model_fill_28 ?_
            refine lv_icmp_ge (tgt := 51) hx hb d_Model_fill_31 (by decide) (fun h9 => ?_) (fun h9 => ?_)
            · -- (nI n) ≤ (nI q)
              exact absurd h9 (nI_ge (by omega) (by omega))
            · -- ¬ (nI n) ≤ (nI q)
              refine lv_aload_n hx hb d_Model_fill_34 rfl (lv_at hl 1 rfl) ?_
              refine va_get (D := D) (ci := 4) (v := .ref mw) (C := R_Model) (T := F_Model) (N := 13) hx hb hts in_Model hown hE.1 hP 0 rfl rfl 5 (by decide) (hts _ k_321) (fun _ h9 => h9) rfl d_Model_fill_35 ?_
              refine lv_iload_n hx hb d_Model_fill_38 rfl (lv_at hl 0 rfl) ?_
              refine lv_aload_n hx hb d_Model_fill_39 rfl (lv_at hl 1 rfl) ?_
              refine lv_iload_n hx hb d_Model_fill_40 rfl (lv_at hl 0 rfl) ?_
              refine vp_callSi (va_Run.run (va_runV (As := [.int (nI q)]) (rest := [.int (nI q), .ref mw]) ⟨hx, hb, hml, hown, hts⟩ (c_Model_isBad l D cI cZ mo mp mq mr mw mt ml mk mv kd n fo fn g y fs fl fk fv em sp rs q (by omega)) (cwV 1 hts (gd4 k_377 k_379 k_12 k_22 k_380) rfl rfl rfl (by decide +kernel) ⟨Nat.le_of_ble_eq_true rfl, Nat.le_of_ble_eq_true rfl⟩) ⟨PY_blind, va_recv (q0 := 0) (ci := 4) hE.1 hP rfl rfl, py_pre hE (hP.sub [0, 1, 2, 3, 4, 5, 6, 7, 8] rfl)⟩ rfl rfl hl.1 rfl (lv_room (Nat.le_of_ble_eq_true rfl)) d_Model_fill_41 ⟨Nat.zero_le _, Nat.zero_le _⟩)) (fun r hq => ?_)
              subst hq
              refine va_zast hx hb hE.1 hP hD hS 4 1 rfl rfl (vp_in_nI (by omega) (by decide)) d_Model_fill_44 (fun H locs hP hD hS => ?_)
              rw [nI_clamp (show q < 2 ^ 31 by omega)] at hP hD
              rw [nar01 (bad01 kd (nI n) (fo q) (fn q))] at hP hD
              have hP : va_P D classes [(mo, .inr (4, [.int kd, .ref mp, .ref mq, .int (nI n), .ref mr, .ref mw, .ref mt, .ref ml, .ref mk, .ref mv, .int em, .int sp, .int rs])), (mp, .inl (cI, 64, .inl fo)), (mq, .inl (cI, 64, .inl fn)), (mr, .inl (cI, 576, .inl g)), (mw, .inl (cZ, 64, .inl (upd y q (v_bad kd (nI n) (fo q) (fn q))))), (mt, .inl (cI, 8, .inl fs)), (ml, .inl (cI, 4, .inl fl)), (mk, .inl (cI, 20, .inl fk)), (mv, .inl (cI, 20, .inl fv))] H := hP
              have hD : va_D A [(mo, .inr (4, [.int kd, .ref mp, .ref mq, .int (nI n), .ref mr, .ref mw, .ref mt, .ref ml, .ref mk, .ref mv, .int em, .int sp, .int rs])), (mp, .inl (cI, 64, .inl fo)), (mq, .inl (cI, 64, .inl fn)), (mr, .inl (cI, 576, .inl g)), (mw, .inl (cZ, 64, .inl (upd y q (v_bad kd (nI n) (fo q) (fn q))))), (mt, .inl (cI, 8, .inl fs)), (ml, .inl (cI, 4, .inl fl)), (mk, .inl (cI, 20, .inl fk)), (mv, .inl (cI, 20, .inl fv))] := hD
              refine lv_iinc (v := ((nI q) + 1)) (k := 0) hx hb d_Model_fill_45 hl rfl rfl (by decide) rfl (fun ls hl => ?_)
              have hl : lv_has ls 3 [(1, .int ((nI q) + 1)), (0, .ref mo)] := hl
              refine lv_goto (tgt := 26) hx hb d_Model_fill_48 (by decide) ?_
              rw [nI_1] at hl
              exact ih2 (q + 1) _ _ _ _ (by omega) hl hP hD (fun i hi => by
                unfold upd
                by_cases hij : i = q
                · rw [if_pos hij, hij]; exact bad_if hk hn (by omega)
                · rw [if_neg hij]; exact hw i (by omega)) hS
        exact key2 n 0 fW H locs ls (Nat.zero_add n) (lv_sub hl [0, 1] rfl) hP hD (fun i h => absurd h (Nat.not_lt_zero i)) hS
      · -- ¬ (nI 576) ≤ (nI j)
        exact absurd (nI_le (by omega) (by omega)) h1
    | succ N ih =>
      intro j g H locs ls hjN hl hP hD hg hS
      refine lv_iload_n hx hb d_Model_fill_2 rfl (lv_at hl 0 rfl) ?_
      refine lv_aload_n hx hb d_Model_fill_3 rfl (lv_at hl 1 rfl) ?_
      refine va_get (D := D) (ci := 4) (v := .ref mr) (C := R_Model) (T := F_Model) (N := 13) hx hb hts in_Model hown hE.1 hP 0 rfl rfl 4 (by decide) (hts _ k_320) (fun _ h9 => h9) rfl d_Model_fill_4 ?_
      refine va_alen (v := (nI 576)) hx hb hE.1 hP 3 0 rfl rfl rfl d_Model_fill_7 ?_
      refine lv_icmp_ge (tgt := 24) hx hb d_Model_fill_8 (by decide) (fun h10 => ?_) (fun h10 => ?_)
      · -- (nI 576) ≤ (nI j)
        exact absurd h10 (nI_ge (by omega) (by omega))
      · -- ¬ (nI 576) ≤ (nI j)
        refine lv_aload_n hx hb d_Model_fill_11 rfl (lv_at hl 1 rfl) ?_
        refine va_get (D := D) (ci := 4) (v := .ref mr) (C := R_Model) (T := F_Model) (N := 13) hx hb hts in_Model hown hE.1 hP 0 rfl rfl 4 (by decide) (hts _ k_320) (fun _ h9 => h9) rfl d_Model_fill_12 ?_
        refine lv_iload_n hx hb d_Model_fill_15 rfl (lv_at hl 0 rfl) ?_
        refine lv_iconst (v := 0) hx hb d_Model_fill_16 (by decide) ?_
        refine va_iast hx hb hE.1 hP hD hS 3 0 rfl rfl (vp_in_nI (by omega) (by decide)) d_Model_fill_17 (fun H locs hP hD hS => ?_)
        rw [nI_clamp (show j < 2 ^ 31 by omega)] at hP hD
        have hP : va_P D classes [(mo, .inr (4, [.int kd, .ref mp, .ref mq, .int (nI n), .ref mr, .ref mw, .ref mt, .ref ml, .ref mk, .ref mv, .int em, .int sp, .int rs])), (mp, .inl (cI, 64, .inl fo)), (mq, .inl (cI, 64, .inl fn)), (mr, .inl (cI, 576, .inl (upd g j 0))), (mw, .inl (cZ, 64, .inl fW)), (mt, .inl (cI, 8, .inl fs)), (ml, .inl (cI, 4, .inl fl)), (mk, .inl (cI, 20, .inl fk)), (mv, .inl (cI, 20, .inl fv))] H := hP
        have hD : va_D A [(mo, .inr (4, [.int kd, .ref mp, .ref mq, .int (nI n), .ref mr, .ref mw, .ref mt, .ref ml, .ref mk, .ref mv, .int em, .int sp, .int rs])), (mp, .inl (cI, 64, .inl fo)), (mq, .inl (cI, 64, .inl fn)), (mr, .inl (cI, 576, .inl (upd g j 0))), (mw, .inl (cZ, 64, .inl fW)), (mt, .inl (cI, 8, .inl fs)), (ml, .inl (cI, 4, .inl fl)), (mk, .inl (cI, 20, .inl fk)), (mv, .inl (cI, 20, .inl fv))] := hD
        refine lv_iinc (v := ((nI j) + 1)) (k := 0) hx hb d_Model_fill_18 hl rfl rfl (by decide) rfl (fun ls hl => ?_)
        have hl : lv_has ls 3 [(1, .int ((nI j) + 1)), (0, .ref mo)] := hl
        refine lv_goto (tgt := 2) hx hb d_Model_fill_21 (by decide) ?_
        rw [nI_1] at hl
        exact ih (j + 1) _ _ _ _ (by omega) hl hP hD (fun i hi => by
          unfold upd
          by_cases hij : i = j
          · rw [if_pos hij]
          · rw [if_neg hij]; exact hg i (by omega)) hS
  exact key 576 0 fR s.heap [] ls rfl hl hP hD (fun i h => absurd h (Nat.not_lt_zero i)) hS
