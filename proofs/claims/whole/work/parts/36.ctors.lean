set_option maxHeartbeats 4000000 in
set_option maxRecDepth 100000 in
theorem c_Program_init (l : Launch) (D : va_G) (cI cZ : ClassId) (hz : Nat) (pr : Nat) (kd : Int32) : Met l y_Program_init w_Program_init ({ frames := 1, cells := 2, slots := 128, locals := 40 } : Room) (va_Pc [.ref pr, .int kd] (MY D cI cZ [(pr, .inr (1, [.int 0, .int 0, .int 0, .null, .null]))] hz)) (va_Qv (fun _ : Nat × Nat => True) (fun u t => ME D (va_A [(pr, .inr (1, [.int 0, .int 0, .int 0, .null, .null]))] hz) [(pr, .inr (1, [.int kd, .int 0, .int (acOf kd), .ref u.1, .ref u.2])), (u.1, .inl (cI, 64, .inl (fun _ => 0))), (u.2, .inl (cI, 64, .inl (fun _ => 0)))] t) (va_A [(pr, .inr (1, [.int 0, .int 0, .int 0, .null, .null]))] hz)) 2 128 (va_A [(pr, .inr (1, [.int 0, .int 0, .int 0, .null, .null]))] hz) := by
  refine Met.ofW (cc := b_Program_init) (maxL := 2) (ret := none) (by decide) rfl ?_
  intro p e s m args below meth c s₁ B hml hv
  obtain ⟨rfl, hsz, hP, hE, hD0⟩ := hv
  have hx := B.exec
  have hb := B.bytes
  have hr := B.returns
  have hts : ∀ w ∈ gW, w.before _ s = true := fun w h => atoms_spec (ws := w_Program_init) B.pre w (List.mem_cons_of_mem _ h)
  have hown : s.vm.findClass R_Program = some m.cls := findClass_of_methodNamed B.named
  have hlocks := B.notSynchronized
  have hin : meth.name = "<init>" := (name_of_methodNamed B.named B.method).1
  subst hsz
  have hD := hD0.self (sz := s.heap.size)
  have hA : ∀ q : Nat, s.heap.size ≤ q → va_A [(pr, .inr (1, [.int 0, .int 0, .int 0, .null, .null]))] s.heap.size q := fun q h => Or.inr h
  generalize va_A [(pr, .inr (1, [.int 0, .int 0, .int 0, .null, .null]))] s.heap.size = A at hD hA ⊢
  have hS : va_S A s.heap s.heap [] := va_S.rf
  have hP : va_P D classes [(pr, .inr (1, [.int 0, .int 0, .int 0, .null, .null]))] s.heap := hP
  have hD : va_D A [(pr, .inr (1, [.int 0, .int 0, .int 0, .null, .null]))] := hD
  have hl := lv_entry ([.ref pr, .int kd]) (n := 2) (Nat.le_of_ble_eq_true rfl)
  rw [lg_entry_eq]
  generalize (lg_sl ([.ref pr, .int kd]) ++ List.replicate (2 - (lg_sl ([.ref pr, .int kd])).length) Slot.unset).toArray = ls at hl ⊢
  have hl : lv_has ls 2 [(0, .ref pr), (1, .int kd)] := hl
  refine lv_aload_n hx hb d_Program_init_0 rfl (lv_at hl 0 rfl) ?_
  refine W.objInit hx hb hown (hts _ k_39) (hts _ k_32) (hts _ k_33) rfl (by rw [hml]; exact hl.1) rfl d_Program_init_1 (Nat.le_of_ble_eq_true rfl) (Nat.le_of_ble_eq_true rfl) ?_
  refine W.eq (g2 := F0 m 4 ls []) rfl ?_
  refine lv_aload_n hx hb d_Program_init_4 rfl (lv_at hl 0 rfl) ?_
  refine lv_bipush (v := 64) hx hb d_Program_init_5 (by decide) ?_
  refine va_newa (atype := .int) (ty := .int) (n := 64) (N' := 64) (a0 := (64, .inl (fun _ => 0))) hx hb (hts _ k_59) rfl hE.1 hP hD hS hA (fun _ => rfl) (by decide) (by decide) (by decide) (Nat.le_of_ble_eq_true rfl) (Nat.le_of_ble_eq_true rfl) d_Program_init_7 (fun q1 cA H hK1 hP hD hS => ?_)
  have ecA : cI = cA := Option.some.inj ((hK1.2 0 _ rfl).2.symm.trans (hK1.2 2 _ rfl).2)
  subst ecA
  clear hK1
  have hP : va_P D classes [(pr, .inr (1, [.int 0, .int 0, .int 0, .null, .null])), (q1, .inl (cI, 64, .inl (fun _ => 0)))] H := hP
  have hD : va_D A [(pr, .inr (1, [.int 0, .int 0, .int 0, .null, .null])), (q1, .inl (cI, 64, .inl (fun _ => 0)))] := hD
  refine va_putF (D := D) (ci := 1) (v := .ref q1) (ty := (.array .int)) (C := R_Program) (T := F_Program) (N := 5) hx hb hts in_Program t_Program t_Program_ok n_Program hown hE.1 hP hD hS 0 rfl rfl 3 (by decide) (hts _ k_46) (fun _ h9 => h9) rfl hin rfl (by decide +kernel) rfl rfl (Nat.le_of_ble_eq_true rfl) d_Program_init_9 (fun H locs hP hD hS => ?_)
  have hP : va_P D classes [(pr, .inr (1, [.int 0, .int 0, .int 0, .ref q1, .null])), (q1, .inl (cI, 64, .inl (fun _ => 0)))] H := hP
  have hD : va_D A [(pr, .inr (1, [.int 0, .int 0, .int 0, .ref q1, .null])), (q1, .inl (cI, 64, .inl (fun _ => 0)))] := hD
  refine lv_aload_n hx hb d_Program_init_12 rfl (lv_at hl 0 rfl) ?_
  refine lv_bipush (v := 64) hx hb d_Program_init_13 (by decide) ?_
  refine va_newa (atype := .int) (ty := .int) (n := 64) (N' := 64) (a0 := (64, .inl (fun _ => 0))) hx hb (hts _ k_59) rfl hE.1 hP hD hS hA (fun _ => rfl) (by decide) (by decide) (by decide) (Nat.le_of_ble_eq_true rfl) (Nat.le_of_ble_eq_true rfl) d_Program_init_15 (fun q2 cA H hK1 hP hD hS => ?_)
  have ecA : cI = cA := Option.some.inj ((hK1.2 0 _ rfl).2.symm.trans (hK1.2 2 _ rfl).2)
  subst ecA
  clear hK1
  have hP : va_P D classes [(pr, .inr (1, [.int 0, .int 0, .int 0, .ref q1, .null])), (q1, .inl (cI, 64, .inl (fun _ => 0))), (q2, .inl (cI, 64, .inl (fun _ => 0)))] H := hP
  have hD : va_D A [(pr, .inr (1, [.int 0, .int 0, .int 0, .ref q1, .null])), (q1, .inl (cI, 64, .inl (fun _ => 0))), (q2, .inl (cI, 64, .inl (fun _ => 0)))] := hD
  refine va_putF (D := D) (ci := 1) (v := .ref q2) (ty := (.array .int)) (C := R_Program) (T := F_Program) (N := 5) hx hb hts in_Program t_Program t_Program_ok n_Program hown hE.1 hP hD hS 0 rfl rfl 4 (by decide) (hts _ k_47) (fun _ h9 => h9) rfl hin rfl (by decide +kernel) rfl rfl (Nat.le_of_ble_eq_true rfl) d_Program_init_17 (fun H locs hP hD hS => ?_)
  have hP : va_P D classes [(pr, .inr (1, [.int 0, .int 0, .int 0, .ref q1, .ref q2])), (q1, .inl (cI, 64, .inl (fun _ => 0))), (q2, .inl (cI, 64, .inl (fun _ => 0)))] H := hP
  have hD : va_D A [(pr, .inr (1, [.int 0, .int 0, .int 0, .ref q1, .ref q2])), (q1, .inl (cI, 64, .inl (fun _ => 0))), (q2, .inl (cI, 64, .inl (fun _ => 0)))] := hD
  refine lv_aload_n hx hb d_Program_init_20 rfl (lv_at hl 0 rfl) ?_
  refine lv_iload_n hx hb d_Program_init_21 rfl (lv_at hl 1 rfl) ?_
  refine va_putF (D := D) (ci := 1) (v := .int kd) (ty := .int) (C := R_Program) (T := F_Program) (N := 5) hx hb hts in_Program t_Program t_Program_ok n_Program hown hE.1 hP hD hS 0 rfl rfl 0 (by decide) (hts _ k_40) (fun _ h9 => h9) rfl hin rfl (by decide +kernel) rfl rfl (Nat.le_of_ble_eq_true rfl) d_Program_init_22 (fun H locs hP hD hS => ?_)
  have hP : va_P D classes [(pr, .inr (1, [.int kd, .int 0, .int 0, .ref q1, .ref q2])), (q1, .inl (cI, 64, .inl (fun _ => 0))), (q2, .inl (cI, 64, .inl (fun _ => 0)))] H := hP
  have hD : va_D A [(pr, .inr (1, [.int kd, .int 0, .int 0, .ref q1, .ref q2])), (q1, .inl (cI, 64, .inl (fun _ => 0))), (q2, .inl (cI, 64, .inl (fun _ => 0)))] := hD
  refine lv_aload_n hx hb d_Program_init_25 rfl (lv_at hl 0 rfl) ?_
  refine lv_iload_n hx hb d_Program_init_26 rfl (lv_at hl 1 rfl) ?_
  refine lv_iconst (v := 1) hx hb d_Program_init_27 (by decide) ?_
  refine lv_icmp_eq (tgt := 36) hx hb d_Program_init_28 (by decide) (fun h3 => ?_) (fun h3 => ?_)
  · -- kd = 1
    refine lv_iconst (v := 3) hx hb d_Program_init_36 (by decide) ?_
    refine lv_goto (tgt := 41) hx hb d_Program_init_37 (by decide) ?_
    refine lv_eqi (y := acOf kd) (by first | (simp only [acOf, h3, if_true, if_false, eq_self, not_true_eq_false, not_false_eq_true, ne_eq]; done) | (simp only [acOf, h3, if_true, if_false, eq_self, not_true_eq_false, not_false_eq_true, ne_eq]; rfl)) ?_
    refine va_putF (D := D) (ci := 1) (v := .int (acOf kd)) (ty := .int) (C := R_Program) (T := F_Program) (N := 5) hx hb hts in_Program t_Program t_Program_ok n_Program hown hE.1 hP hD hS 0 rfl rfl 2 (by decide) (hts _ k_45) (fun _ h9 => h9) rfl hin rfl (by decide +kernel) rfl rfl (Nat.le_of_ble_eq_true rfl) d_Program_init_41 (fun H locs hP hD hS => ?_)
    have hP : va_P D classes [(pr, .inr (1, [.int kd, .int 0, .int (acOf kd), .ref q1, .ref q2])), (q1, .inl (cI, 64, .inl (fun _ => 0))), (q2, .inl (cI, 64, .inl (fun _ => 0)))] H := hP
    have hD : va_D A [(pr, .inr (1, [.int kd, .int 0, .int (acOf kd), .ref q1, .ref q2])), (q1, .inl (cI, 64, .inl (fun _ => 0))), (q2, .inl (cI, 64, .inl (fun _ => 0)))] := hD
    refine W.vret hx hb hr (fun t ht hW => ⟨⟨(q1, q2), rfl, ?_, ?_⟩, hS.F ht⟩) hS.2.2 d_Program_init_44
    · trivial
    · exact ⟨by rw [ht]; exact hP.sub [0, 1, 2] rfl, hD.sub [0, 1, 2] (by decide) rfl⟩
  · -- ¬ kd = 1
    refine lv_iload_n hx hb d_Program_init_31 rfl (lv_at hl 1 rfl) ?_
    refine lv_iconst (v := 2) hx hb d_Program_init_32 (by decide) ?_
    refine lv_icmp_ne (tgt := 40) hx hb d_Program_init_33 (by decide) (fun h4 => ?_) (fun h4 => ?_)
    · -- ¬ kd = 2
      refine lv_iconst (v := 2) hx hb d_Program_init_40 (by decide) ?_
      refine lv_eqi (y := acOf kd) (by first | (simp only [acOf, h3, h4, if_true, if_false, eq_self, not_true_eq_false, not_false_eq_true, ne_eq]; done) | (simp only [acOf, h3, h4, if_true, if_false, eq_self, not_true_eq_false, not_false_eq_true, ne_eq]; rfl)) ?_
      refine va_putF (D := D) (ci := 1) (v := .int (acOf kd)) (ty := .int) (C := R_Program) (T := F_Program) (N := 5) hx hb hts in_Program t_Program t_Program_ok n_Program hown hE.1 hP hD hS 0 rfl rfl 2 (by decide) (hts _ k_45) (fun _ h9 => h9) rfl hin rfl (by decide +kernel) rfl rfl (Nat.le_of_ble_eq_true rfl) d_Program_init_41 (fun H locs hP hD hS => ?_)
      have hP : va_P D classes [(pr, .inr (1, [.int kd, .int 0, .int (acOf kd), .ref q1, .ref q2])), (q1, .inl (cI, 64, .inl (fun _ => 0))), (q2, .inl (cI, 64, .inl (fun _ => 0)))] H := hP
      have hD : va_D A [(pr, .inr (1, [.int kd, .int 0, .int (acOf kd), .ref q1, .ref q2])), (q1, .inl (cI, 64, .inl (fun _ => 0))), (q2, .inl (cI, 64, .inl (fun _ => 0)))] := hD
      refine W.vret hx hb hr (fun t ht hW => ⟨⟨(q1, q2), rfl, ?_, ?_⟩, hS.F ht⟩) hS.2.2 d_Program_init_44
      · trivial
      · exact ⟨by rw [ht]; exact hP.sub [0, 1, 2] rfl, hD.sub [0, 1, 2] (by decide) rfl⟩
    · -- kd = 2
      refine lv_iconst (v := 3) hx hb d_Program_init_36 (by decide) ?_
      refine lv_goto (tgt := 41) hx hb d_Program_init_37 (by decide) ?_
      refine lv_eqi (y := acOf kd) (by first | (simp only [acOf, h3, h4, if_true, if_false, eq_self, not_true_eq_false, not_false_eq_true, ne_eq]; done) | (simp only [acOf, h3, h4, if_true, if_false, eq_self, not_true_eq_false, not_false_eq_true, ne_eq]; rfl)) ?_
      refine va_putF (D := D) (ci := 1) (v := .int (acOf kd)) (ty := .int) (C := R_Program) (T := F_Program) (N := 5) hx hb hts in_Program t_Program t_Program_ok n_Program hown hE.1 hP hD hS 0 rfl rfl 2 (by decide) (hts _ k_45) (fun _ h9 => h9) rfl hin rfl (by decide +kernel) rfl rfl (Nat.le_of_ble_eq_true rfl) d_Program_init_41 (fun H locs hP hD hS => ?_)
      have hP : va_P D classes [(pr, .inr (1, [.int kd, .int 0, .int (acOf kd), .ref q1, .ref q2])), (q1, .inl (cI, 64, .inl (fun _ => 0))), (q2, .inl (cI, 64, .inl (fun _ => 0)))] H := hP
      have hD : va_D A [(pr, .inr (1, [.int kd, .int 0, .int (acOf kd), .ref q1, .ref q2])), (q1, .inl (cI, 64, .inl (fun _ => 0))), (q2, .inl (cI, 64, .inl (fun _ => 0)))] := hD
      refine W.vret hx hb hr (fun t ht hW => ⟨⟨(q1, q2), rfl, ?_, ?_⟩, hS.F ht⟩) hS.2.2 d_Program_init_44
      · trivial
      · exact ⟨by rw [ht]; exact hP.sub [0, 1, 2] rfl, hD.sub [0, 1, 2] (by decide) rfl⟩
set_option maxHeartbeats 4000000 in
set_option maxRecDepth 100000 in
theorem c_Ways_init (l : Launch) (D : va_G) (cI cZ : ClassId) (hz : Nat) (wy : Nat) : Met l y_Ways_init w_Ways_init ({ frames := 1, cells := 2, slots := 640, locals := 40 } : Room) (va_Pc [.ref wy] (MY D cI cZ [(wy, .inr (2, [.null, .null, .int 0]))] hz)) (va_Qv (fun _ : Nat × Nat => True) (fun u t => ME D (va_A [(wy, .inr (2, [.null, .null, .int 0]))] hz) [(wy, .inr (2, [.ref u.1, .ref u.2, .int 0])), (u.1, .inl (cI, 64, .inl (fun _ => 0))), (u.2, .inl (cI, 576, .inl (fun _ => 0)))] t) (va_A [(wy, .inr (2, [.null, .null, .int 0]))] hz)) 2 640 (va_A [(wy, .inr (2, [.null, .null, .int 0]))] hz) := by
  refine Met.ofW (cc := b_Ways_init) (maxL := 1) (ret := none) (by decide) rfl ?_
  intro p e s m args below meth c s₁ B hml hv
  obtain ⟨rfl, hsz, hP, hE, hD0⟩ := hv
  have hx := B.exec
  have hb := B.bytes
  have hr := B.returns
  have hts : ∀ w ∈ gW, w.before _ s = true := fun w h => atoms_spec (ws := w_Ways_init) B.pre w (List.mem_cons_of_mem _ h)
  have hown : s.vm.findClass R_Ways = some m.cls := findClass_of_methodNamed B.named
  have hlocks := B.notSynchronized
  have hin : meth.name = "<init>" := (name_of_methodNamed B.named B.method).1
  subst hsz
  have hD := hD0.self (sz := s.heap.size)
  have hA : ∀ q : Nat, s.heap.size ≤ q → va_A [(wy, .inr (2, [.null, .null, .int 0]))] s.heap.size q := fun q h => Or.inr h
  generalize va_A [(wy, .inr (2, [.null, .null, .int 0]))] s.heap.size = A at hD hA ⊢
  have hS : va_S A s.heap s.heap [] := va_S.rf
  have hP : va_P D classes [(wy, .inr (2, [.null, .null, .int 0]))] s.heap := hP
  have hD : va_D A [(wy, .inr (2, [.null, .null, .int 0]))] := hD
  have hl := lv_entry ([.ref wy]) (n := 1) (Nat.le_of_ble_eq_true rfl)
  rw [lg_entry_eq]
  generalize (lg_sl ([.ref wy]) ++ List.replicate (1 - (lg_sl ([.ref wy])).length) Slot.unset).toArray = ls at hl ⊢
  have hl : lv_has ls 1 [(0, .ref wy)] := hl
  refine lv_aload_n hx hb d_Ways_init_0 rfl (lv_at hl 0 rfl) ?_
  refine W.objInit hx hb hown (hts _ k_65) (hts _ k_32) (hts _ k_33) rfl (by rw [hml]; exact hl.1) rfl d_Ways_init_1 (Nat.le_of_ble_eq_true rfl) (Nat.le_of_ble_eq_true rfl) ?_
  refine W.eq (g2 := F0 m 4 ls []) rfl ?_
  refine lv_aload_n hx hb d_Ways_init_4 rfl (lv_at hl 0 rfl) ?_
  refine lv_bipush (v := 64) hx hb d_Ways_init_5 (by decide) ?_
  refine va_newa (atype := .int) (ty := .int) (n := 64) (N' := 64) (a0 := (64, .inl (fun _ => 0))) hx hb (hts _ k_59) rfl hE.1 hP hD hS hA (fun _ => rfl) (by decide) (by decide) (by decide) (Nat.le_of_ble_eq_true rfl) (Nat.le_of_ble_eq_true rfl) d_Ways_init_7 (fun q1 cA H hK1 hP hD hS => ?_)
  have ecA : cI = cA := Option.some.inj ((hK1.2 0 _ rfl).2.symm.trans (hK1.2 2 _ rfl).2)
  subst ecA
  clear hK1
  have hP : va_P D classes [(wy, .inr (2, [.null, .null, .int 0])), (q1, .inl (cI, 64, .inl (fun _ => 0)))] H := hP
  have hD : va_D A [(wy, .inr (2, [.null, .null, .int 0])), (q1, .inl (cI, 64, .inl (fun _ => 0)))] := hD
  refine va_putF (D := D) (ci := 2) (v := .ref q1) (ty := (.array .int)) (C := R_Ways) (T := F_Ways) (N := 3) hx hb hts in_Ways t_Ways t_Ways_ok n_Ways hown hE.1 hP hD hS 0 rfl rfl 0 (by decide) (hts _ k_66) (fun _ h9 => h9) rfl hin rfl (by decide +kernel) rfl rfl (Nat.le_of_ble_eq_true rfl) d_Ways_init_9 (fun H locs hP hD hS => ?_)
  have hP : va_P D classes [(wy, .inr (2, [.ref q1, .null, .int 0])), (q1, .inl (cI, 64, .inl (fun _ => 0)))] H := hP
  have hD : va_D A [(wy, .inr (2, [.ref q1, .null, .int 0])), (q1, .inl (cI, 64, .inl (fun _ => 0)))] := hD
  refine lv_aload_n hx hb d_Ways_init_12 rfl (lv_at hl 0 rfl) ?_
  refine lv_sipush (v := 576) hx hb d_Ways_init_13 (by decide) ?_
  refine va_newa (atype := .int) (ty := .int) (n := 576) (N' := 576) (a0 := (576, .inl (fun _ => 0))) hx hb (hts _ k_59) rfl hE.1 hP hD hS hA (fun _ => rfl) (by decide) (by decide) (by decide) (Nat.le_of_ble_eq_true rfl) (Nat.le_of_ble_eq_true rfl) d_Ways_init_16 (fun q2 cA H hK1 hP hD hS => ?_)
  have ecA : cI = cA := Option.some.inj ((hK1.2 0 _ rfl).2.symm.trans (hK1.2 2 _ rfl).2)
  subst ecA
  clear hK1
  have hP : va_P D classes [(wy, .inr (2, [.ref q1, .null, .int 0])), (q1, .inl (cI, 64, .inl (fun _ => 0))), (q2, .inl (cI, 576, .inl (fun _ => 0)))] H := hP
  have hD : va_D A [(wy, .inr (2, [.ref q1, .null, .int 0])), (q1, .inl (cI, 64, .inl (fun _ => 0))), (q2, .inl (cI, 576, .inl (fun _ => 0)))] := hD
  refine va_putF (D := D) (ci := 2) (v := .ref q2) (ty := (.array .int)) (C := R_Ways) (T := F_Ways) (N := 3) hx hb hts in_Ways t_Ways t_Ways_ok n_Ways hown hE.1 hP hD hS 0 rfl rfl 1 (by decide) (hts _ k_68) (fun _ h9 => h9) rfl hin rfl (by decide +kernel) rfl rfl (Nat.le_of_ble_eq_true rfl) d_Ways_init_18 (fun H locs hP hD hS => ?_)
  have hP : va_P D classes [(wy, .inr (2, [.ref q1, .ref q2, .int 0])), (q1, .inl (cI, 64, .inl (fun _ => 0))), (q2, .inl (cI, 576, .inl (fun _ => 0)))] H := hP
  have hD : va_D A [(wy, .inr (2, [.ref q1, .ref q2, .int 0])), (q1, .inl (cI, 64, .inl (fun _ => 0))), (q2, .inl (cI, 576, .inl (fun _ => 0)))] := hD
  refine W.vret hx hb hr (fun t ht hW => ⟨⟨(q1, q2), rfl, ?_, ?_⟩, hS.F ht⟩) hS.2.2 d_Ways_init_21
  · trivial
  · exact ⟨by rw [ht]; exact hP.sub [0, 1, 2] rfl, hD.sub [0, 1, 2] (by decide) rfl⟩
set_option maxHeartbeats 4000000 in
set_option maxRecDepth 100000 in
theorem c_Machine_init (l : Launch) (D : va_G) (cI cZ : ClassId) (hz : Nat) (mc : Nat) : Met l y_Machine_init w_Machine_init ({ frames := 1, cells := 5, slots := 55, locals := 40 } : Room) (va_Pc [.ref mc] (MY D cI cZ [(mc, .inr (3, [.int 0, .int 0, .int 0, .null, .null, .null, .null, .null, .int 0, .int 0]))] hz)) (va_Qv (fun _ : Nat × Nat × Nat × Nat × Nat => True) (fun u t => ME D (va_A [(mc, .inr (3, [.int 0, .int 0, .int 0, .null, .null, .null, .null, .null, .int 0, .int 0]))] hz) [(mc, .inr (3, [.int 0, .int 0, .int 0, .ref u.1, .ref u.2.1, .ref u.2.2.1, .ref u.2.2.2.1, .ref u.2.2.2.2, .int 0, .int 0])), (u.1, .inl (cI, 20, .inl (fun _ => 0))), (u.2.1, .inl (cI, 20, .inl (fun _ => 0))), (u.2.2.1, .inl (cI, 3, .inl (fun _ => 0))), (u.2.2.2.1, .inl (cI, 4, .inl (fun _ => 0))), (u.2.2.2.2, .inl (cI, 8, .inl (fun _ => 0)))] t) (va_A [(mc, .inr (3, [.int 0, .int 0, .int 0, .null, .null, .null, .null, .null, .int 0, .int 0]))] hz)) 5 55 (va_A [(mc, .inr (3, [.int 0, .int 0, .int 0, .null, .null, .null, .null, .null, .int 0, .int 0]))] hz) := by
  refine Met.ofW (cc := b_Machine_init) (maxL := 1) (ret := none) (by decide) rfl ?_
  intro p e s m args below meth c s₁ B hml hv
  obtain ⟨rfl, hsz, hP, hE, hD0⟩ := hv
  have hx := B.exec
  have hb := B.bytes
  have hr := B.returns
  have hts : ∀ w ∈ gW, w.before _ s = true := fun w h => atoms_spec (ws := w_Machine_init) B.pre w (List.mem_cons_of_mem _ h)
  have hown : s.vm.findClass R_Machine = some m.cls := findClass_of_methodNamed B.named
  have hlocks := B.notSynchronized
  have hin : meth.name = "<init>" := (name_of_methodNamed B.named B.method).1
  subst hsz
  have hD := hD0.self (sz := s.heap.size)
  have hA : ∀ q : Nat, s.heap.size ≤ q → va_A [(mc, .inr (3, [.int 0, .int 0, .int 0, .null, .null, .null, .null, .null, .int 0, .int 0]))] s.heap.size q := fun q h => Or.inr h
  generalize va_A [(mc, .inr (3, [.int 0, .int 0, .int 0, .null, .null, .null, .null, .null, .int 0, .int 0]))] s.heap.size = A at hD hA ⊢
  have hS : va_S A s.heap s.heap [] := va_S.rf
  have hP : va_P D classes [(mc, .inr (3, [.int 0, .int 0, .int 0, .null, .null, .null, .null, .null, .int 0, .int 0]))] s.heap := hP
  have hD : va_D A [(mc, .inr (3, [.int 0, .int 0, .int 0, .null, .null, .null, .null, .null, .int 0, .int 0]))] := hD
  have hl := lv_entry ([.ref mc]) (n := 1) (Nat.le_of_ble_eq_true rfl)
  rw [lg_entry_eq]
  generalize (lg_sl ([.ref mc]) ++ List.replicate (1 - (lg_sl ([.ref mc])).length) Slot.unset).toArray = ls at hl ⊢
  have hl : lv_has ls 1 [(0, .ref mc)] := hl
  refine lv_aload_n hx hb d_Machine_init_0 rfl (lv_at hl 0 rfl) ?_
  refine W.objInit hx hb hown (hts _ k_82) (hts _ k_32) (hts _ k_33) rfl (by rw [hml]; exact hl.1) rfl d_Machine_init_1 (Nat.le_of_ble_eq_true rfl) (Nat.le_of_ble_eq_true rfl) ?_
  refine W.eq (g2 := F0 m 4 ls []) rfl ?_
  refine lv_aload_n hx hb d_Machine_init_4 rfl (lv_at hl 0 rfl) ?_
  refine lv_bipush (v := 20) hx hb d_Machine_init_5 (by decide) ?_
  refine va_newa (atype := .int) (ty := .int) (n := 20) (N' := 20) (a0 := (20, .inl (fun _ => 0))) hx hb (hts _ k_59) rfl hE.1 hP hD hS hA (fun _ => rfl) (by decide) (by decide) (by decide) (Nat.le_of_ble_eq_true rfl) (Nat.le_of_ble_eq_true rfl) d_Machine_init_7 (fun q1 cA H hK1 hP hD hS => ?_)
  have ecA : cI = cA := Option.some.inj ((hK1.2 0 _ rfl).2.symm.trans (hK1.2 2 _ rfl).2)
  subst ecA
  clear hK1
  have hP : va_P D classes [(mc, .inr (3, [.int 0, .int 0, .int 0, .null, .null, .null, .null, .null, .int 0, .int 0])), (q1, .inl (cI, 20, .inl (fun _ => 0)))] H := hP
  have hD : va_D A [(mc, .inr (3, [.int 0, .int 0, .int 0, .null, .null, .null, .null, .null, .int 0, .int 0])), (q1, .inl (cI, 20, .inl (fun _ => 0)))] := hD
  refine va_putF (D := D) (ci := 3) (v := .ref q1) (ty := (.array .int)) (C := R_Machine) (T := F_Machine) (N := 10) hx hb hts in_Machine t_Machine t_Machine_ok n_Machine hown hE.1 hP hD hS 0 rfl rfl 3 (by decide) (hts _ k_89) (fun _ h9 => h9) rfl hin rfl (by decide +kernel) rfl rfl (Nat.le_of_ble_eq_true rfl) d_Machine_init_9 (fun H locs hP hD hS => ?_)
  have hP : va_P D classes [(mc, .inr (3, [.int 0, .int 0, .int 0, .ref q1, .null, .null, .null, .null, .int 0, .int 0])), (q1, .inl (cI, 20, .inl (fun _ => 0)))] H := hP
  have hD : va_D A [(mc, .inr (3, [.int 0, .int 0, .int 0, .ref q1, .null, .null, .null, .null, .int 0, .int 0])), (q1, .inl (cI, 20, .inl (fun _ => 0)))] := hD
  refine lv_aload_n hx hb d_Machine_init_12 rfl (lv_at hl 0 rfl) ?_
  refine lv_bipush (v := 20) hx hb d_Machine_init_13 (by decide) ?_
  refine va_newa (atype := .int) (ty := .int) (n := 20) (N' := 20) (a0 := (20, .inl (fun _ => 0))) hx hb (hts _ k_59) rfl hE.1 hP hD hS hA (fun _ => rfl) (by decide) (by decide) (by decide) (Nat.le_of_ble_eq_true rfl) (Nat.le_of_ble_eq_true rfl) d_Machine_init_15 (fun q2 cA H hK1 hP hD hS => ?_)
  have ecA : cI = cA := Option.some.inj ((hK1.2 0 _ rfl).2.symm.trans (hK1.2 2 _ rfl).2)
  subst ecA
  clear hK1
  have hP : va_P D classes [(mc, .inr (3, [.int 0, .int 0, .int 0, .ref q1, .null, .null, .null, .null, .int 0, .int 0])), (q1, .inl (cI, 20, .inl (fun _ => 0))), (q2, .inl (cI, 20, .inl (fun _ => 0)))] H := hP
  have hD : va_D A [(mc, .inr (3, [.int 0, .int 0, .int 0, .ref q1, .null, .null, .null, .null, .int 0, .int 0])), (q1, .inl (cI, 20, .inl (fun _ => 0))), (q2, .inl (cI, 20, .inl (fun _ => 0)))] := hD
  refine va_putF (D := D) (ci := 3) (v := .ref q2) (ty := (.array .int)) (C := R_Machine) (T := F_Machine) (N := 10) hx hb hts in_Machine t_Machine t_Machine_ok n_Machine hown hE.1 hP hD hS 0 rfl rfl 4 (by decide) (hts _ k_91) (fun _ h9 => h9) rfl hin rfl (by decide +kernel) rfl rfl (Nat.le_of_ble_eq_true rfl) d_Machine_init_17 (fun H locs hP hD hS => ?_)
  have hP : va_P D classes [(mc, .inr (3, [.int 0, .int 0, .int 0, .ref q1, .ref q2, .null, .null, .null, .int 0, .int 0])), (q1, .inl (cI, 20, .inl (fun _ => 0))), (q2, .inl (cI, 20, .inl (fun _ => 0)))] H := hP
  have hD : va_D A [(mc, .inr (3, [.int 0, .int 0, .int 0, .ref q1, .ref q2, .null, .null, .null, .int 0, .int 0])), (q1, .inl (cI, 20, .inl (fun _ => 0))), (q2, .inl (cI, 20, .inl (fun _ => 0)))] := hD
  refine lv_aload_n hx hb d_Machine_init_20 rfl (lv_at hl 0 rfl) ?_
  refine lv_iconst (v := 3) hx hb d_Machine_init_21 (by decide) ?_
  refine va_newa (atype := .int) (ty := .int) (n := 3) (N' := 3) (a0 := (3, .inl (fun _ => 0))) hx hb (hts _ k_59) rfl hE.1 hP hD hS hA (fun _ => rfl) (by decide) (by decide) (by decide) (Nat.le_of_ble_eq_true rfl) (Nat.le_of_ble_eq_true rfl) d_Machine_init_22 (fun q3 cA H hK1 hP hD hS => ?_)
  have ecA : cI = cA := Option.some.inj ((hK1.2 0 _ rfl).2.symm.trans (hK1.2 2 _ rfl).2)
  subst ecA
  clear hK1
  have hP : va_P D classes [(mc, .inr (3, [.int 0, .int 0, .int 0, .ref q1, .ref q2, .null, .null, .null, .int 0, .int 0])), (q1, .inl (cI, 20, .inl (fun _ => 0))), (q2, .inl (cI, 20, .inl (fun _ => 0))), (q3, .inl (cI, 3, .inl (fun _ => 0)))] H := hP
  have hD : va_D A [(mc, .inr (3, [.int 0, .int 0, .int 0, .ref q1, .ref q2, .null, .null, .null, .int 0, .int 0])), (q1, .inl (cI, 20, .inl (fun _ => 0))), (q2, .inl (cI, 20, .inl (fun _ => 0))), (q3, .inl (cI, 3, .inl (fun _ => 0)))] := hD
  refine va_putF (D := D) (ci := 3) (v := .ref q3) (ty := (.array .int)) (C := R_Machine) (T := F_Machine) (N := 10) hx hb hts in_Machine t_Machine t_Machine_ok n_Machine hown hE.1 hP hD hS 0 rfl rfl 5 (by decide) (hts _ k_93) (fun _ h9 => h9) rfl hin rfl (by decide +kernel) rfl rfl (Nat.le_of_ble_eq_true rfl) d_Machine_init_24 (fun H locs hP hD hS => ?_)
  have hP : va_P D classes [(mc, .inr (3, [.int 0, .int 0, .int 0, .ref q1, .ref q2, .ref q3, .null, .null, .int 0, .int 0])), (q1, .inl (cI, 20, .inl (fun _ => 0))), (q2, .inl (cI, 20, .inl (fun _ => 0))), (q3, .inl (cI, 3, .inl (fun _ => 0)))] H := hP
  have hD : va_D A [(mc, .inr (3, [.int 0, .int 0, .int 0, .ref q1, .ref q2, .ref q3, .null, .null, .int 0, .int 0])), (q1, .inl (cI, 20, .inl (fun _ => 0))), (q2, .inl (cI, 20, .inl (fun _ => 0))), (q3, .inl (cI, 3, .inl (fun _ => 0)))] := hD
  refine lv_aload_n hx hb d_Machine_init_27 rfl (lv_at hl 0 rfl) ?_
  refine lv_iconst (v := 4) hx hb d_Machine_init_28 (by decide) ?_
  refine va_newa (atype := .int) (ty := .int) (n := 4) (N' := 4) (a0 := (4, .inl (fun _ => 0))) hx hb (hts _ k_59) rfl hE.1 hP hD hS hA (fun _ => rfl) (by decide) (by decide) (by decide) (Nat.le_of_ble_eq_true rfl) (Nat.le_of_ble_eq_true rfl) d_Machine_init_29 (fun q4 cA H hK1 hP hD hS => ?_)
  have ecA : cI = cA := Option.some.inj ((hK1.2 0 _ rfl).2.symm.trans (hK1.2 2 _ rfl).2)
  subst ecA
  clear hK1
  have hP : va_P D classes [(mc, .inr (3, [.int 0, .int 0, .int 0, .ref q1, .ref q2, .ref q3, .null, .null, .int 0, .int 0])), (q1, .inl (cI, 20, .inl (fun _ => 0))), (q2, .inl (cI, 20, .inl (fun _ => 0))), (q3, .inl (cI, 3, .inl (fun _ => 0))), (q4, .inl (cI, 4, .inl (fun _ => 0)))] H := hP
  have hD : va_D A [(mc, .inr (3, [.int 0, .int 0, .int 0, .ref q1, .ref q2, .ref q3, .null, .null, .int 0, .int 0])), (q1, .inl (cI, 20, .inl (fun _ => 0))), (q2, .inl (cI, 20, .inl (fun _ => 0))), (q3, .inl (cI, 3, .inl (fun _ => 0))), (q4, .inl (cI, 4, .inl (fun _ => 0)))] := hD
  refine va_putF (D := D) (ci := 3) (v := .ref q4) (ty := (.array .int)) (C := R_Machine) (T := F_Machine) (N := 10) hx hb hts in_Machine t_Machine t_Machine_ok n_Machine hown hE.1 hP hD hS 0 rfl rfl 6 (by decide) (hts _ k_94) (fun _ h9 => h9) rfl hin rfl (by decide +kernel) rfl rfl (Nat.le_of_ble_eq_true rfl) d_Machine_init_31 (fun H locs hP hD hS => ?_)
  have hP : va_P D classes [(mc, .inr (3, [.int 0, .int 0, .int 0, .ref q1, .ref q2, .ref q3, .ref q4, .null, .int 0, .int 0])), (q1, .inl (cI, 20, .inl (fun _ => 0))), (q2, .inl (cI, 20, .inl (fun _ => 0))), (q3, .inl (cI, 3, .inl (fun _ => 0))), (q4, .inl (cI, 4, .inl (fun _ => 0)))] H := hP
  have hD : va_D A [(mc, .inr (3, [.int 0, .int 0, .int 0, .ref q1, .ref q2, .ref q3, .ref q4, .null, .int 0, .int 0])), (q1, .inl (cI, 20, .inl (fun _ => 0))), (q2, .inl (cI, 20, .inl (fun _ => 0))), (q3, .inl (cI, 3, .inl (fun _ => 0))), (q4, .inl (cI, 4, .inl (fun _ => 0)))] := hD
  refine lv_aload_n hx hb d_Machine_init_34 rfl (lv_at hl 0 rfl) ?_
  refine lv_bipush (v := 8) hx hb d_Machine_init_35 (by decide) ?_
  refine va_newa (atype := .int) (ty := .int) (n := 8) (N' := 8) (a0 := (8, .inl (fun _ => 0))) hx hb (hts _ k_59) rfl hE.1 hP hD hS hA (fun _ => rfl) (by decide) (by decide) (by decide) (Nat.le_of_ble_eq_true rfl) (Nat.le_of_ble_eq_true rfl) d_Machine_init_37 (fun q5 cA H hK1 hP hD hS => ?_)
  have ecA : cI = cA := Option.some.inj ((hK1.2 0 _ rfl).2.symm.trans (hK1.2 2 _ rfl).2)
  subst ecA
  clear hK1
  have hP : va_P D classes [(mc, .inr (3, [.int 0, .int 0, .int 0, .ref q1, .ref q2, .ref q3, .ref q4, .null, .int 0, .int 0])), (q1, .inl (cI, 20, .inl (fun _ => 0))), (q2, .inl (cI, 20, .inl (fun _ => 0))), (q3, .inl (cI, 3, .inl (fun _ => 0))), (q4, .inl (cI, 4, .inl (fun _ => 0))), (q5, .inl (cI, 8, .inl (fun _ => 0)))] H := hP
  have hD : va_D A [(mc, .inr (3, [.int 0, .int 0, .int 0, .ref q1, .ref q2, .ref q3, .ref q4, .null, .int 0, .int 0])), (q1, .inl (cI, 20, .inl (fun _ => 0))), (q2, .inl (cI, 20, .inl (fun _ => 0))), (q3, .inl (cI, 3, .inl (fun _ => 0))), (q4, .inl (cI, 4, .inl (fun _ => 0))), (q5, .inl (cI, 8, .inl (fun _ => 0)))] := hD
  refine va_putF (D := D) (ci := 3) (v := .ref q5) (ty := (.array .int)) (C := R_Machine) (T := F_Machine) (N := 10) hx hb hts in_Machine t_Machine t_Machine_ok n_Machine hown hE.1 hP hD hS 0 rfl rfl 7 (by decide) (hts _ k_95) (fun _ h9 => h9) rfl hin rfl (by decide +kernel) rfl rfl (Nat.le_of_ble_eq_true rfl) d_Machine_init_39 (fun H locs hP hD hS => ?_)
  have hP : va_P D classes [(mc, .inr (3, [.int 0, .int 0, .int 0, .ref q1, .ref q2, .ref q3, .ref q4, .ref q5, .int 0, .int 0])), (q1, .inl (cI, 20, .inl (fun _ => 0))), (q2, .inl (cI, 20, .inl (fun _ => 0))), (q3, .inl (cI, 3, .inl (fun _ => 0))), (q4, .inl (cI, 4, .inl (fun _ => 0))), (q5, .inl (cI, 8, .inl (fun _ => 0)))] H := hP
  have hD : va_D A [(mc, .inr (3, [.int 0, .int 0, .int 0, .ref q1, .ref q2, .ref q3, .ref q4, .ref q5, .int 0, .int 0])), (q1, .inl (cI, 20, .inl (fun _ => 0))), (q2, .inl (cI, 20, .inl (fun _ => 0))), (q3, .inl (cI, 3, .inl (fun _ => 0))), (q4, .inl (cI, 4, .inl (fun _ => 0))), (q5, .inl (cI, 8, .inl (fun _ => 0)))] := hD
  refine W.vret hx hb hr (fun t ht hW => ⟨⟨(q1, q2, q3, q4, q5), rfl, ?_, ?_⟩, hS.F ht⟩) hS.2.2 d_Machine_init_42
  · trivial
  · exact ⟨by rw [ht]; exact hP.sub [0, 1, 2, 3, 4, 5] rfl, hD.sub [0, 1, 2, 3, 4, 5] (by decide) rfl⟩
set_option maxHeartbeats 4000000 in
set_option maxRecDepth 100000 in
theorem c_SJ_init (l : Launch) (D : va_G) (cI cZ : ClassId) (hz : Nat) (xx : Nat) (k : Int32) : Met l y_SJ_init w_SJ_init ({ frames := 2, cells := 12, slots := 841, locals := 80 } : Room) (va_Pc [.ref xx, .int k] (MY D cI cZ [(xx, .inr (0, [.null, .null, .null]))] hz)) (va_Qv (fun _ : Nat × Nat × Nat × Nat × Nat × Nat × Nat × Nat × Nat × Nat × Nat × Nat => True) (fun u t => ME D (va_A [(xx, .inr (0, [.null, .null, .null]))] hz) [(xx, .inr (0, [.ref u.1, .ref u.2.2.2.1, .ref u.2.2.2.2.2.2.1])), (u.1, .inr (1, [.int (k &&& 3), .int 0, .int (acOf (k &&& 3)), .ref u.2.1, .ref u.2.2.1])), (u.2.1, .inl (cI, 64, .inl (fun _ => 0))), (u.2.2.1, .inl (cI, 64, .inl (fun _ => 0))), (u.2.2.2.1, .inr (2, [.ref u.2.2.2.2.1, .ref u.2.2.2.2.2.1, .int 0])), (u.2.2.2.2.1, .inl (cI, 64, .inl (fun _ => 0))), (u.2.2.2.2.2.1, .inl (cI, 576, .inl (fun _ => 0))), (u.2.2.2.2.2.2.1, .inr (3, [.int 0, .int 0, .int 0, .ref u.2.2.2.2.2.2.2.1, .ref u.2.2.2.2.2.2.2.2.1, .ref u.2.2.2.2.2.2.2.2.2.1, .ref u.2.2.2.2.2.2.2.2.2.2.1, .ref u.2.2.2.2.2.2.2.2.2.2.2, .int 0, .int 0])), (u.2.2.2.2.2.2.2.1, .inl (cI, 20, .inl (fun _ => 0))), (u.2.2.2.2.2.2.2.2.1, .inl (cI, 20, .inl (fun _ => 0))), (u.2.2.2.2.2.2.2.2.2.1, .inl (cI, 3, .inl (fun _ => 0))), (u.2.2.2.2.2.2.2.2.2.2.1, .inl (cI, 4, .inl (fun _ => 0))), (u.2.2.2.2.2.2.2.2.2.2.2, .inl (cI, 8, .inl (fun _ => 0)))] t) (va_A [(xx, .inr (0, [.null, .null, .null]))] hz)) 12 841 (va_A [(xx, .inr (0, [.null, .null, .null]))] hz) := by
  refine Met.ofW (cc := b_SJ_init) (maxL := 2) (ret := none) (by decide) rfl ?_
  intro p e s m args below meth c s₁ B hml hv
  obtain ⟨rfl, hsz, hP, hE, hD0⟩ := hv
  have hx := B.exec
  have hb := B.bytes
  have hr := B.returns
  have hts : ∀ w ∈ gW, w.before _ s = true := fun w h => atoms_spec (ws := w_SJ_init) B.pre w (List.mem_cons_of_mem _ h)
  have hown : s.vm.findClass R_SJ = some m.cls := findClass_of_methodNamed B.named
  have hlocks := B.notSynchronized
  have hin : meth.name = "<init>" := (name_of_methodNamed B.named B.method).1
  subst hsz
  have hD := hD0.self (sz := s.heap.size)
  have hA : ∀ q : Nat, s.heap.size ≤ q → va_A [(xx, .inr (0, [.null, .null, .null]))] s.heap.size q := fun q h => Or.inr h
  generalize va_A [(xx, .inr (0, [.null, .null, .null]))] s.heap.size = A at hD hA ⊢
  have hS : va_S A s.heap s.heap [] := va_S.rf
  have hP : va_P D classes [(xx, .inr (0, [.null, .null, .null]))] s.heap := hP
  have hD : va_D A [(xx, .inr (0, [.null, .null, .null]))] := hD
  have hl := lv_entry ([.ref xx, .int k]) (n := 2) (Nat.le_of_ble_eq_true rfl)
  rw [lg_entry_eq]
  generalize (lg_sl ([.ref xx, .int k]) ++ List.replicate (2 - (lg_sl ([.ref xx, .int k])).length) Slot.unset).toArray = ls at hl ⊢
  have hl : lv_has ls 2 [(0, .ref xx), (1, .int k)] := hl
  refine lv_aload_n hx hb d_SJ_init_0 rfl (lv_at hl 0 rfl) ?_
  refine W.objInit hx hb hown (hts _ k_31) (hts _ k_32) (hts _ k_33) rfl (by rw [hml]; exact hl.1) rfl d_SJ_init_1 (Nat.le_of_ble_eq_true rfl) (Nat.le_of_ble_eq_true rfl) ?_
  refine W.eq (g2 := F0 m 4 ls []) rfl ?_
  refine lv_aload_n hx hb d_SJ_init_4 rfl (lv_at hl 0 rfl) ?_
  refine va_new (ci := 1) (fs := [.int 0, .int 0, .int 0, .null, .null]) (C := R_Program) (T := F_Program) (N := 5) hx hb hts in_Program t_Program t_Program_ok hown (hts _ k_34) (hts _ k_35) (hts _ k_19) hE.1 hP hD hS hA rfl (fun j hj => by rcases (by omega : j = 0 ∨ j = 1 ∨ j = 2 ∨ j = 3 ∨ j = 4) with rfl | rfl | rfl | rfl | rfl <;> rfl) (Nat.le_of_ble_eq_true rfl) (Nat.le_of_ble_eq_true rfl) d_SJ_init_5 (fun q1 H hP hD hS => ?_)
  have hP : va_P D classes [(xx, .inr (0, [.null, .null, .null])), (q1, .inr (1, [.int 0, .int 0, .int 0, .null, .null]))] H := hP
  have hD : va_D A [(xx, .inr (0, [.null, .null, .null])), (q1, .inr (1, [.int 0, .int 0, .int 0, .null, .null]))] := hD
  refine lv_dup hx hb d_SJ_init_8 rfl ?_
  refine lv_iload_n hx hb d_SJ_init_9 rfl (lv_at hl 1 rfl) ?_
  refine lv_iconst (v := 3) hx hb d_SJ_init_10 (by decide) ?_
  refine lv_iand hx hb d_SJ_init_11 ?_
  have hPc := hP.sub (ws' := [(q1, .inr (1, [.int 0, .int 0, .int 0, .null, .null]))]) [1] rfl
  have hDc := hD.sub (ws' := [(q1, .inr (1, [.int 0, .int 0, .int 0, .null, .null]))]) [1] (by decide) rfl
  have hFc := va_free (wc := [(q1, .inr (1, [.int 0, .int 0, .int 0, .null, .null]))]) hD hS hA [1] rfl
  refine va_callv (va_runI (As := [.int (k &&& 3)]) (rest := [.ref q1, .ref xx]) ⟨hx, hb, hml, hown, hts⟩ (c_Program_init l D cI cZ H.size q1 (k &&& 3)) (cwI 1 hts (gd k_38) rfl rfl rfl (hts _ k_19) (hts _ k_36) (hts _ k_37) rfl (by decide +kernel) ⟨Nat.le_of_ble_eq_true rfl, Nat.le_of_ble_eq_true rfl⟩) ⟨MY_blind, my_pre hE hPc hDc⟩ rfl rfl hl.1 rfl (lv_room (Nat.le_of_ble_eq_true rfl)) d_SJ_init_12 ⟨Nat.le_of_ble_eq_true rfl, Nat.le_of_ble_eq_true rfl⟩) hS (fun q _ h => hFc q h) hFc (fun u t H1 locs ht hvm hw hB hz1 hk1 hS => ?_)
  obtain ⟨hP1, hD1⟩ := hB
  rw [ht] at hP1
  obtain ⟨po, pn⟩ := u
  obtain ⟨hP, hD⟩ := va_join (wr := [(xx, .inr (0, [.null, .null, .null]))]) (w1 := [(q1, .inr (1, [.int (k &&& 3), .int 0, .int (acOf (k &&& 3)), .ref po, .ref pn])), (po, .inl (cI, 64, .inl (fun _ => 0))), (pn, .inl (cI, 64, .inl (fun _ => 0)))]) hP hD [1] [0] rfl rfl (by decide) (by decide) hk1 hFc hP1 hD1
  generalize H1 = H at hP hS ⊢
  have hP : va_P D classes [(xx, .inr (0, [.null, .null, .null])), (q1, .inr (1, [.int (k &&& 3), .int 0, .int (acOf (k &&& 3)), .ref po, .ref pn])), (po, .inl (cI, 64, .inl (fun _ => 0))), (pn, .inl (cI, 64, .inl (fun _ => 0)))] H := hP
  have hD : va_D A [(xx, .inr (0, [.null, .null, .null])), (q1, .inr (1, [.int (k &&& 3), .int 0, .int (acOf (k &&& 3)), .ref po, .ref pn])), (po, .inl (cI, 64, .inl (fun _ => 0))), (pn, .inl (cI, 64, .inl (fun _ => 0)))] := hD
  refine va_putF (D := D) (ci := 0) (v := .ref q1) (ty := (.object "StackJudge$Program")) (C := R_SJ) (T := F_SJ) (N := 3) hx hb hts in_SJ t_SJ t_SJ_ok n_SJ hown hE.1 hP hD hS 0 rfl rfl 0 (by decide) (hts _ k_119) (fun _ h9 => h9) rfl hin rfl (by decide +kernel) rfl rfl (Nat.le_of_ble_eq_true rfl) d_SJ_init_15 (fun H locs hP hD hS => ?_)
  have hP : va_P D classes [(xx, .inr (0, [.ref q1, .null, .null])), (q1, .inr (1, [.int (k &&& 3), .int 0, .int (acOf (k &&& 3)), .ref po, .ref pn])), (po, .inl (cI, 64, .inl (fun _ => 0))), (pn, .inl (cI, 64, .inl (fun _ => 0)))] H := hP
  have hD : va_D A [(xx, .inr (0, [.ref q1, .null, .null])), (q1, .inr (1, [.int (k &&& 3), .int 0, .int (acOf (k &&& 3)), .ref po, .ref pn])), (po, .inl (cI, 64, .inl (fun _ => 0))), (pn, .inl (cI, 64, .inl (fun _ => 0)))] := hD
  refine lv_aload_n hx hb d_SJ_init_18 rfl (lv_at hl 0 rfl) ?_
  refine va_new (ci := 2) (fs := [.null, .null, .int 0]) (C := R_Ways) (T := F_Ways) (N := 3) hx hb hts in_Ways t_Ways t_Ways_ok hown (hts _ k_60) (hts _ k_61) (hts _ k_20) hE.1 hP hD hS hA rfl (fun j hj => by rcases (by omega : j = 0 ∨ j = 1 ∨ j = 2) with rfl | rfl | rfl <;> rfl) (Nat.le_of_ble_eq_true rfl) (Nat.le_of_ble_eq_true rfl) d_SJ_init_19 (fun q2 H hP hD hS => ?_)
  have hP : va_P D classes [(xx, .inr (0, [.ref q1, .null, .null])), (q1, .inr (1, [.int (k &&& 3), .int 0, .int (acOf (k &&& 3)), .ref po, .ref pn])), (po, .inl (cI, 64, .inl (fun _ => 0))), (pn, .inl (cI, 64, .inl (fun _ => 0))), (q2, .inr (2, [.null, .null, .int 0]))] H := hP
  have hD : va_D A [(xx, .inr (0, [.ref q1, .null, .null])), (q1, .inr (1, [.int (k &&& 3), .int 0, .int (acOf (k &&& 3)), .ref po, .ref pn])), (po, .inl (cI, 64, .inl (fun _ => 0))), (pn, .inl (cI, 64, .inl (fun _ => 0))), (q2, .inr (2, [.null, .null, .int 0]))] := hD
  refine lv_dup hx hb d_SJ_init_22 rfl ?_
  have hPc := hP.sub (ws' := [(q2, .inr (2, [.null, .null, .int 0]))]) [4] rfl
  have hDc := hD.sub (ws' := [(q2, .inr (2, [.null, .null, .int 0]))]) [4] (by decide) rfl
  have hFc := va_free (wc := [(q2, .inr (2, [.null, .null, .int 0]))]) hD hS hA [4] rfl
  refine va_callv (va_runIN (As := []) (rest := [.ref q2, .ref xx]) ⟨hx, hb, hml, hown, hts⟩ (c_Ways_init l D cI cZ H.size q2) ⟨va_cnB 0 hts (gd k_64) rfl rfl rfl (hE.2 _ nm_0) (hts _ k_20) (by decide +kernel) ⟨Nat.le_of_ble_eq_true rfl, Nat.le_of_ble_eq_true rfl⟩, rfl, hts _ k_63⟩ ⟨MY_blind, my_pre hE hPc hDc⟩ rfl rfl hl.1 rfl (lv_room (Nat.le_of_ble_eq_true rfl)) d_SJ_init_23 ⟨Nat.le_of_ble_eq_true rfl, Nat.le_of_ble_eq_true rfl⟩) hS (fun q _ h => hFc q h) hFc (fun u t H1 locs ht hvm hw hB hz1 hk1 hS => ?_)
  obtain ⟨hP1, hD1⟩ := hB
  rw [ht] at hP1
  obtain ⟨re, wa⟩ := u
  obtain ⟨hP, hD⟩ := va_join (wr := [(xx, .inr (0, [.ref q1, .null, .null])), (q1, .inr (1, [.int (k &&& 3), .int 0, .int (acOf (k &&& 3)), .ref po, .ref pn])), (po, .inl (cI, 64, .inl (fun _ => 0))), (pn, .inl (cI, 64, .inl (fun _ => 0)))]) (w1 := [(q2, .inr (2, [.ref re, .ref wa, .int 0])), (re, .inl (cI, 64, .inl (fun _ => 0))), (wa, .inl (cI, 576, .inl (fun _ => 0)))]) hP hD [4] [0, 1, 2, 3] rfl rfl (by decide) (by decide) hk1 hFc hP1 hD1
  generalize H1 = H at hP hS ⊢
  have hP : va_P D classes [(xx, .inr (0, [.ref q1, .null, .null])), (q1, .inr (1, [.int (k &&& 3), .int 0, .int (acOf (k &&& 3)), .ref po, .ref pn])), (po, .inl (cI, 64, .inl (fun _ => 0))), (pn, .inl (cI, 64, .inl (fun _ => 0))), (q2, .inr (2, [.ref re, .ref wa, .int 0])), (re, .inl (cI, 64, .inl (fun _ => 0))), (wa, .inl (cI, 576, .inl (fun _ => 0)))] H := hP
  have hD : va_D A [(xx, .inr (0, [.ref q1, .null, .null])), (q1, .inr (1, [.int (k &&& 3), .int 0, .int (acOf (k &&& 3)), .ref po, .ref pn])), (po, .inl (cI, 64, .inl (fun _ => 0))), (pn, .inl (cI, 64, .inl (fun _ => 0))), (q2, .inr (2, [.ref re, .ref wa, .int 0])), (re, .inl (cI, 64, .inl (fun _ => 0))), (wa, .inl (cI, 576, .inl (fun _ => 0)))] := hD
  refine va_putF (D := D) (ci := 0) (v := .ref q2) (ty := (.object "StackJudge$Ways")) (C := R_SJ) (T := F_SJ) (N := 3) hx hb hts in_SJ t_SJ t_SJ_ok n_SJ hown hE.1 hP hD hS 0 rfl rfl 1 (by decide) (hts _ k_120) (fun _ h9 => h9) rfl hin rfl (by decide +kernel) rfl rfl (Nat.le_of_ble_eq_true rfl) d_SJ_init_26 (fun H locs hP hD hS => ?_)
  have hP : va_P D classes [(xx, .inr (0, [.ref q1, .ref q2, .null])), (q1, .inr (1, [.int (k &&& 3), .int 0, .int (acOf (k &&& 3)), .ref po, .ref pn])), (po, .inl (cI, 64, .inl (fun _ => 0))), (pn, .inl (cI, 64, .inl (fun _ => 0))), (q2, .inr (2, [.ref re, .ref wa, .int 0])), (re, .inl (cI, 64, .inl (fun _ => 0))), (wa, .inl (cI, 576, .inl (fun _ => 0)))] H := hP
  have hD : va_D A [(xx, .inr (0, [.ref q1, .ref q2, .null])), (q1, .inr (1, [.int (k &&& 3), .int 0, .int (acOf (k &&& 3)), .ref po, .ref pn])), (po, .inl (cI, 64, .inl (fun _ => 0))), (pn, .inl (cI, 64, .inl (fun _ => 0))), (q2, .inr (2, [.ref re, .ref wa, .int 0])), (re, .inl (cI, 64, .inl (fun _ => 0))), (wa, .inl (cI, 576, .inl (fun _ => 0)))] := hD
  refine lv_aload_n hx hb d_SJ_init_29 rfl (lv_at hl 0 rfl) ?_
  refine va_new (ci := 3) (fs := [.int 0, .int 0, .int 0, .null, .null, .null, .null, .null, .int 0, .int 0]) (C := R_Machine) (T := F_Machine) (N := 10) hx hb hts in_Machine t_Machine t_Machine_ok hown (hts _ k_77) (hts _ k_78) (hts _ k_21) hE.1 hP hD hS hA rfl (fun j hj => by rcases (by omega : j = 0 ∨ j = 1 ∨ j = 2 ∨ j = 3 ∨ j = 4 ∨ j = 5 ∨ j = 6 ∨ j = 7 ∨ j = 8 ∨ j = 9) with rfl | rfl | rfl | rfl | rfl | rfl | rfl | rfl | rfl | rfl <;> rfl) (Nat.le_of_ble_eq_true rfl) (Nat.le_of_ble_eq_true rfl) d_SJ_init_30 (fun q3 H hP hD hS => ?_)
  have hP : va_P D classes [(xx, .inr (0, [.ref q1, .ref q2, .null])), (q1, .inr (1, [.int (k &&& 3), .int 0, .int (acOf (k &&& 3)), .ref po, .ref pn])), (po, .inl (cI, 64, .inl (fun _ => 0))), (pn, .inl (cI, 64, .inl (fun _ => 0))), (q2, .inr (2, [.ref re, .ref wa, .int 0])), (re, .inl (cI, 64, .inl (fun _ => 0))), (wa, .inl (cI, 576, .inl (fun _ => 0))), (q3, .inr (3, [.int 0, .int 0, .int 0, .null, .null, .null, .null, .null, .int 0, .int 0]))] H := hP
  have hD : va_D A [(xx, .inr (0, [.ref q1, .ref q2, .null])), (q1, .inr (1, [.int (k &&& 3), .int 0, .int (acOf (k &&& 3)), .ref po, .ref pn])), (po, .inl (cI, 64, .inl (fun _ => 0))), (pn, .inl (cI, 64, .inl (fun _ => 0))), (q2, .inr (2, [.ref re, .ref wa, .int 0])), (re, .inl (cI, 64, .inl (fun _ => 0))), (wa, .inl (cI, 576, .inl (fun _ => 0))), (q3, .inr (3, [.int 0, .int 0, .int 0, .null, .null, .null, .null, .null, .int 0, .int 0]))] := hD
  refine lv_dup hx hb d_SJ_init_33 rfl ?_
  have hPc := hP.sub (ws' := [(q3, .inr (3, [.int 0, .int 0, .int 0, .null, .null, .null, .null, .null, .int 0, .int 0]))]) [7] rfl
  have hDc := hD.sub (ws' := [(q3, .inr (3, [.int 0, .int 0, .int 0, .null, .null, .null, .null, .null, .int 0, .int 0]))]) [7] (by decide) rfl
  have hFc := va_free (wc := [(q3, .inr (3, [.int 0, .int 0, .int 0, .null, .null, .null, .null, .null, .int 0, .int 0]))]) hD hS hA [7] rfl
  refine va_callv (va_runIN (As := []) (rest := [.ref q3, .ref xx]) ⟨hx, hb, hml, hown, hts⟩ (c_Machine_init l D cI cZ H.size q3) ⟨va_cnB 0 hts (gd k_81) rfl rfl rfl (hE.2 _ nm_1) (hts _ k_21) (by decide +kernel) ⟨Nat.le_of_ble_eq_true rfl, Nat.le_of_ble_eq_true rfl⟩, rfl, hts _ k_80⟩ ⟨MY_blind, my_pre hE hPc hDc⟩ rfl rfl hl.1 rfl (lv_room (Nat.le_of_ble_eq_true rfl)) d_SJ_init_34 ⟨Nat.le_of_ble_eq_true rfl, Nat.le_of_ble_eq_true rfl⟩) hS (fun q _ h => hFc q h) hFc (fun u t H1 locs ht hvm hw hB hz1 hk1 hS => ?_)
  obtain ⟨hP1, hD1⟩ := hB
  rw [ht] at hP1
  obtain ⟨ky, vy, gy, ly, sy⟩ := u
  obtain ⟨hP, hD⟩ := va_join (wr := [(xx, .inr (0, [.ref q1, .ref q2, .null])), (q1, .inr (1, [.int (k &&& 3), .int 0, .int (acOf (k &&& 3)), .ref po, .ref pn])), (po, .inl (cI, 64, .inl (fun _ => 0))), (pn, .inl (cI, 64, .inl (fun _ => 0))), (q2, .inr (2, [.ref re, .ref wa, .int 0])), (re, .inl (cI, 64, .inl (fun _ => 0))), (wa, .inl (cI, 576, .inl (fun _ => 0)))]) (w1 := [(q3, .inr (3, [.int 0, .int 0, .int 0, .ref ky, .ref vy, .ref gy, .ref ly, .ref sy, .int 0, .int 0])), (ky, .inl (cI, 20, .inl (fun _ => 0))), (vy, .inl (cI, 20, .inl (fun _ => 0))), (gy, .inl (cI, 3, .inl (fun _ => 0))), (ly, .inl (cI, 4, .inl (fun _ => 0))), (sy, .inl (cI, 8, .inl (fun _ => 0)))]) hP hD [7] [0, 1, 2, 3, 4, 5, 6] rfl rfl (by decide) (by decide) hk1 hFc hP1 hD1
  generalize H1 = H at hP hS ⊢
  have hP : va_P D classes [(xx, .inr (0, [.ref q1, .ref q2, .null])), (q1, .inr (1, [.int (k &&& 3), .int 0, .int (acOf (k &&& 3)), .ref po, .ref pn])), (po, .inl (cI, 64, .inl (fun _ => 0))), (pn, .inl (cI, 64, .inl (fun _ => 0))), (q2, .inr (2, [.ref re, .ref wa, .int 0])), (re, .inl (cI, 64, .inl (fun _ => 0))), (wa, .inl (cI, 576, .inl (fun _ => 0))), (q3, .inr (3, [.int 0, .int 0, .int 0, .ref ky, .ref vy, .ref gy, .ref ly, .ref sy, .int 0, .int 0])), (ky, .inl (cI, 20, .inl (fun _ => 0))), (vy, .inl (cI, 20, .inl (fun _ => 0))), (gy, .inl (cI, 3, .inl (fun _ => 0))), (ly, .inl (cI, 4, .inl (fun _ => 0))), (sy, .inl (cI, 8, .inl (fun _ => 0)))] H := hP
  have hD : va_D A [(xx, .inr (0, [.ref q1, .ref q2, .null])), (q1, .inr (1, [.int (k &&& 3), .int 0, .int (acOf (k &&& 3)), .ref po, .ref pn])), (po, .inl (cI, 64, .inl (fun _ => 0))), (pn, .inl (cI, 64, .inl (fun _ => 0))), (q2, .inr (2, [.ref re, .ref wa, .int 0])), (re, .inl (cI, 64, .inl (fun _ => 0))), (wa, .inl (cI, 576, .inl (fun _ => 0))), (q3, .inr (3, [.int 0, .int 0, .int 0, .ref ky, .ref vy, .ref gy, .ref ly, .ref sy, .int 0, .int 0])), (ky, .inl (cI, 20, .inl (fun _ => 0))), (vy, .inl (cI, 20, .inl (fun _ => 0))), (gy, .inl (cI, 3, .inl (fun _ => 0))), (ly, .inl (cI, 4, .inl (fun _ => 0))), (sy, .inl (cI, 8, .inl (fun _ => 0)))] := hD
  refine va_putF (D := D) (ci := 0) (v := .ref q3) (ty := (.object "StackJudge$Machine")) (C := R_SJ) (T := F_SJ) (N := 3) hx hb hts in_SJ t_SJ t_SJ_ok n_SJ hown hE.1 hP hD hS 0 rfl rfl 2 (by decide) (hts _ k_121) (fun _ h9 => h9) rfl hin rfl (by decide +kernel) rfl rfl (Nat.le_of_ble_eq_true rfl) d_SJ_init_37 (fun H locs hP hD hS => ?_)
  have hP : va_P D classes [(xx, .inr (0, [.ref q1, .ref q2, .ref q3])), (q1, .inr (1, [.int (k &&& 3), .int 0, .int (acOf (k &&& 3)), .ref po, .ref pn])), (po, .inl (cI, 64, .inl (fun _ => 0))), (pn, .inl (cI, 64, .inl (fun _ => 0))), (q2, .inr (2, [.ref re, .ref wa, .int 0])), (re, .inl (cI, 64, .inl (fun _ => 0))), (wa, .inl (cI, 576, .inl (fun _ => 0))), (q3, .inr (3, [.int 0, .int 0, .int 0, .ref ky, .ref vy, .ref gy, .ref ly, .ref sy, .int 0, .int 0])), (ky, .inl (cI, 20, .inl (fun _ => 0))), (vy, .inl (cI, 20, .inl (fun _ => 0))), (gy, .inl (cI, 3, .inl (fun _ => 0))), (ly, .inl (cI, 4, .inl (fun _ => 0))), (sy, .inl (cI, 8, .inl (fun _ => 0)))] H := hP
  have hD : va_D A [(xx, .inr (0, [.ref q1, .ref q2, .ref q3])), (q1, .inr (1, [.int (k &&& 3), .int 0, .int (acOf (k &&& 3)), .ref po, .ref pn])), (po, .inl (cI, 64, .inl (fun _ => 0))), (pn, .inl (cI, 64, .inl (fun _ => 0))), (q2, .inr (2, [.ref re, .ref wa, .int 0])), (re, .inl (cI, 64, .inl (fun _ => 0))), (wa, .inl (cI, 576, .inl (fun _ => 0))), (q3, .inr (3, [.int 0, .int 0, .int 0, .ref ky, .ref vy, .ref gy, .ref ly, .ref sy, .int 0, .int 0])), (ky, .inl (cI, 20, .inl (fun _ => 0))), (vy, .inl (cI, 20, .inl (fun _ => 0))), (gy, .inl (cI, 3, .inl (fun _ => 0))), (ly, .inl (cI, 4, .inl (fun _ => 0))), (sy, .inl (cI, 8, .inl (fun _ => 0)))] := hD
  refine W.vret hx hb hr (fun t ht hW => ⟨⟨(q1, po, pn, q2, re, wa, q3, ky, vy, gy, ly, sy), rfl, ?_, ?_⟩, hS.F ht⟩) hS.2.2 d_SJ_init_40
  · trivial
  · exact ⟨by rw [ht]; exact hP.sub [0, 1, 2, 3, 4, 5, 6, 7, 8, 9, 10, 11, 12] rfl, hD.sub [0, 1, 2, 3, 4, 5, 6, 7, 8, 9, 10, 11, 12] (by decide) rfl⟩
set_option maxHeartbeats 4000000 in
set_option maxRecDepth 100000 in
theorem c_Model_init (l : Launch) (D : va_G) (cI cZ : ClassId) (hz : Nat) (mo : Nat) (k : Int32) : Met l y_Model_init w_Model_init ({ frames := 1, cells := 8, slots := 820, locals := 40 } : Room) (va_Pc [.ref mo, .int k] (MY D cI cZ [(mo, .inr (4, [.int 0, .null, .null, .int 0, .null, .null, .null, .null, .null, .null, .int 0, .int 0, .int 0]))] hz)) (va_Qv (fun _ : Nat × Nat × Nat × Nat × Nat × Nat × Nat × Nat => True) (fun u t => ME D (va_A [(mo, .inr (4, [.int 0, .null, .null, .int 0, .null, .null, .null, .null, .null, .null, .int 0, .int 0, .int 0]))] hz) [(mo, .inr (4, [.int (k &&& 3), .ref u.1, .ref u.2.1, .int 0, .ref u.2.2.1, .ref u.2.2.2.1, .ref u.2.2.2.2.1, .ref u.2.2.2.2.2.1, .ref u.2.2.2.2.2.2.1, .ref u.2.2.2.2.2.2.2, .int 0, .int 0, .int 0])), (u.1, .inl (cI, 64, .inl (fun _ => 0))), (u.2.1, .inl (cI, 64, .inl (fun _ => 0))), (u.2.2.1, .inl (cI, 576, .inl (fun _ => 0))), (u.2.2.2.1, .inl (cZ, 64, .inl (fun _ => 0))), (u.2.2.2.2.1, .inl (cI, 8, .inl (fun _ => 0))), (u.2.2.2.2.2.1, .inl (cI, 4, .inl (fun _ => 0))), (u.2.2.2.2.2.2.1, .inl (cI, 20, .inl (fun _ => 0))), (u.2.2.2.2.2.2.2, .inl (cI, 20, .inl (fun _ => 0)))] t) (va_A [(mo, .inr (4, [.int 0, .null, .null, .int 0, .null, .null, .null, .null, .null, .null, .int 0, .int 0, .int 0]))] hz)) 8 820 (va_A [(mo, .inr (4, [.int 0, .null, .null, .int 0, .null, .null, .null, .null, .null, .null, .int 0, .int 0, .int 0]))] hz) := by
  refine Met.ofW (cc := b_Model_init) (maxL := 2) (ret := none) (by decide) rfl ?_
  intro p e s m args below meth c s₁ B hml hv
  obtain ⟨rfl, hsz, hP, hE, hD0⟩ := hv
  have hx := B.exec
  have hb := B.bytes
  have hr := B.returns
  have hts : ∀ w ∈ gW, w.before _ s = true := fun w h => atoms_spec (ws := w_Model_init) B.pre w (List.mem_cons_of_mem _ h)
  have hown : s.vm.findClass R_Model = some m.cls := findClass_of_methodNamed B.named
  have hlocks := B.notSynchronized
  have hin : meth.name = "<init>" := (name_of_methodNamed B.named B.method).1
  subst hsz
  have hD := hD0.self (sz := s.heap.size)
  have hA : ∀ q : Nat, s.heap.size ≤ q → va_A [(mo, .inr (4, [.int 0, .null, .null, .int 0, .null, .null, .null, .null, .null, .null, .int 0, .int 0, .int 0]))] s.heap.size q := fun q h => Or.inr h
  generalize va_A [(mo, .inr (4, [.int 0, .null, .null, .int 0, .null, .null, .null, .null, .null, .null, .int 0, .int 0, .int 0]))] s.heap.size = A at hD hA ⊢
  have hS : va_S A s.heap s.heap [] := va_S.rf
  have hP : va_P D classes [(mo, .inr (4, [.int 0, .null, .null, .int 0, .null, .null, .null, .null, .null, .null, .int 0, .int 0, .int 0]))] s.heap := hP
  have hD : va_D A [(mo, .inr (4, [.int 0, .null, .null, .int 0, .null, .null, .null, .null, .null, .null, .int 0, .int 0, .int 0]))] := hD
  have hl := lv_entry ([.ref mo, .int k]) (n := 2) (Nat.le_of_ble_eq_true rfl)
  rw [lg_entry_eq]
  generalize (lg_sl ([.ref mo, .int k]) ++ List.replicate (2 - (lg_sl ([.ref mo, .int k])).length) Slot.unset).toArray = ls at hl ⊢
  have hl : lv_has ls 2 [(0, .ref mo), (1, .int k)] := hl
  refine lv_aload_n hx hb d_Model_init_0 rfl (lv_at hl 0 rfl) ?_
  refine W.objInit hx hb hown (hts _ k_315) (hts _ k_32) (hts _ k_33) rfl (by rw [hml]; exact hl.1) rfl d_Model_init_1 (Nat.le_of_ble_eq_true rfl) (Nat.le_of_ble_eq_true rfl) ?_
  refine W.eq (g2 := F0 m 4 ls []) rfl ?_
  refine lv_aload_n hx hb d_Model_init_4 rfl (lv_at hl 0 rfl) ?_
  refine lv_bipush (v := 64) hx hb d_Model_init_5 (by decide) ?_
  refine va_newa (atype := .int) (ty := .int) (n := 64) (N' := 64) (a0 := (64, .inl (fun _ => 0))) hx hb (hts _ k_59) rfl hE.1 hP hD hS hA (fun _ => rfl) (by decide) (by decide) (by decide) (Nat.le_of_ble_eq_true rfl) (Nat.le_of_ble_eq_true rfl) d_Model_init_7 (fun q1 cA H hK1 hP hD hS => ?_)
  have ecA : cI = cA := Option.some.inj ((hK1.2 0 _ rfl).2.symm.trans (hK1.2 2 _ rfl).2)
  subst ecA
  clear hK1
  have hP : va_P D classes [(mo, .inr (4, [.int 0, .null, .null, .int 0, .null, .null, .null, .null, .null, .null, .int 0, .int 0, .int 0])), (q1, .inl (cI, 64, .inl (fun _ => 0)))] H := hP
  have hD : va_D A [(mo, .inr (4, [.int 0, .null, .null, .int 0, .null, .null, .null, .null, .null, .null, .int 0, .int 0, .int 0])), (q1, .inl (cI, 64, .inl (fun _ => 0)))] := hD
  refine va_putF (D := D) (ci := 4) (v := .ref q1) (ty := (.array .int)) (C := R_Model) (T := F_Model) (N := 13) hx hb hts in_Model t_Model t_Model_ok n_Model hown hE.1 hP hD hS 0 rfl rfl 1 (by decide) (hts _ k_317) (fun _ h9 => h9) rfl hin rfl (by decide +kernel) rfl rfl (Nat.le_of_ble_eq_true rfl) d_Model_init_9 (fun H locs hP hD hS => ?_)
  have hP : va_P D classes [(mo, .inr (4, [.int 0, .ref q1, .null, .int 0, .null, .null, .null, .null, .null, .null, .int 0, .int 0, .int 0])), (q1, .inl (cI, 64, .inl (fun _ => 0)))] H := hP
  have hD : va_D A [(mo, .inr (4, [.int 0, .ref q1, .null, .int 0, .null, .null, .null, .null, .null, .null, .int 0, .int 0, .int 0])), (q1, .inl (cI, 64, .inl (fun _ => 0)))] := hD
  refine lv_aload_n hx hb d_Model_init_12 rfl (lv_at hl 0 rfl) ?_
  refine lv_bipush (v := 64) hx hb d_Model_init_13 (by decide) ?_
  refine va_newa (atype := .int) (ty := .int) (n := 64) (N' := 64) (a0 := (64, .inl (fun _ => 0))) hx hb (hts _ k_59) rfl hE.1 hP hD hS hA (fun _ => rfl) (by decide) (by decide) (by decide) (Nat.le_of_ble_eq_true rfl) (Nat.le_of_ble_eq_true rfl) d_Model_init_15 (fun q2 cA H hK1 hP hD hS => ?_)
  have ecA : cI = cA := Option.some.inj ((hK1.2 0 _ rfl).2.symm.trans (hK1.2 2 _ rfl).2)
  subst ecA
  clear hK1
  have hP : va_P D classes [(mo, .inr (4, [.int 0, .ref q1, .null, .int 0, .null, .null, .null, .null, .null, .null, .int 0, .int 0, .int 0])), (q1, .inl (cI, 64, .inl (fun _ => 0))), (q2, .inl (cI, 64, .inl (fun _ => 0)))] H := hP
  have hD : va_D A [(mo, .inr (4, [.int 0, .ref q1, .null, .int 0, .null, .null, .null, .null, .null, .null, .int 0, .int 0, .int 0])), (q1, .inl (cI, 64, .inl (fun _ => 0))), (q2, .inl (cI, 64, .inl (fun _ => 0)))] := hD
  refine va_putF (D := D) (ci := 4) (v := .ref q2) (ty := (.array .int)) (C := R_Model) (T := F_Model) (N := 13) hx hb hts in_Model t_Model t_Model_ok n_Model hown hE.1 hP hD hS 0 rfl rfl 2 (by decide) (hts _ k_318) (fun _ h9 => h9) rfl hin rfl (by decide +kernel) rfl rfl (Nat.le_of_ble_eq_true rfl) d_Model_init_17 (fun H locs hP hD hS => ?_)
  have hP : va_P D classes [(mo, .inr (4, [.int 0, .ref q1, .ref q2, .int 0, .null, .null, .null, .null, .null, .null, .int 0, .int 0, .int 0])), (q1, .inl (cI, 64, .inl (fun _ => 0))), (q2, .inl (cI, 64, .inl (fun _ => 0)))] H := hP
  have hD : va_D A [(mo, .inr (4, [.int 0, .ref q1, .ref q2, .int 0, .null, .null, .null, .null, .null, .null, .int 0, .int 0, .int 0])), (q1, .inl (cI, 64, .inl (fun _ => 0))), (q2, .inl (cI, 64, .inl (fun _ => 0)))] := hD
  refine lv_aload_n hx hb d_Model_init_20 rfl (lv_at hl 0 rfl) ?_
  refine lv_sipush (v := 576) hx hb d_Model_init_21 (by decide) ?_
  refine va_newa (atype := .int) (ty := .int) (n := 576) (N' := 576) (a0 := (576, .inl (fun _ => 0))) hx hb (hts _ k_59) rfl hE.1 hP hD hS hA (fun _ => rfl) (by decide) (by decide) (by decide) (Nat.le_of_ble_eq_true rfl) (Nat.le_of_ble_eq_true rfl) d_Model_init_24 (fun q3 cA H hK1 hP hD hS => ?_)
  have ecA : cI = cA := Option.some.inj ((hK1.2 0 _ rfl).2.symm.trans (hK1.2 2 _ rfl).2)
  subst ecA
  clear hK1
  have hP : va_P D classes [(mo, .inr (4, [.int 0, .ref q1, .ref q2, .int 0, .null, .null, .null, .null, .null, .null, .int 0, .int 0, .int 0])), (q1, .inl (cI, 64, .inl (fun _ => 0))), (q2, .inl (cI, 64, .inl (fun _ => 0))), (q3, .inl (cI, 576, .inl (fun _ => 0)))] H := hP
  have hD : va_D A [(mo, .inr (4, [.int 0, .ref q1, .ref q2, .int 0, .null, .null, .null, .null, .null, .null, .int 0, .int 0, .int 0])), (q1, .inl (cI, 64, .inl (fun _ => 0))), (q2, .inl (cI, 64, .inl (fun _ => 0))), (q3, .inl (cI, 576, .inl (fun _ => 0)))] := hD
  refine va_putF (D := D) (ci := 4) (v := .ref q3) (ty := (.array .int)) (C := R_Model) (T := F_Model) (N := 13) hx hb hts in_Model t_Model t_Model_ok n_Model hown hE.1 hP hD hS 0 rfl rfl 4 (by decide) (hts _ k_320) (fun _ h9 => h9) rfl hin rfl (by decide +kernel) rfl rfl (Nat.le_of_ble_eq_true rfl) d_Model_init_26 (fun H locs hP hD hS => ?_)
  have hP : va_P D classes [(mo, .inr (4, [.int 0, .ref q1, .ref q2, .int 0, .ref q3, .null, .null, .null, .null, .null, .int 0, .int 0, .int 0])), (q1, .inl (cI, 64, .inl (fun _ => 0))), (q2, .inl (cI, 64, .inl (fun _ => 0))), (q3, .inl (cI, 576, .inl (fun _ => 0)))] H := hP
  have hD : va_D A [(mo, .inr (4, [.int 0, .ref q1, .ref q2, .int 0, .ref q3, .null, .null, .null, .null, .null, .int 0, .int 0, .int 0])), (q1, .inl (cI, 64, .inl (fun _ => 0))), (q2, .inl (cI, 64, .inl (fun _ => 0))), (q3, .inl (cI, 576, .inl (fun _ => 0)))] := hD
  refine lv_aload_n hx hb d_Model_init_29 rfl (lv_at hl 0 rfl) ?_
  refine lv_bipush (v := 64) hx hb d_Model_init_30 (by decide) ?_
  refine va_newa (atype := .boolean) (ty := .boolean) (n := 64) (N' := 64) (a0 := (64, .inl (fun _ => 0))) hx hb (hts _ k_356) rfl hE.1 hP hD hS hA (fun _ => rfl) (by decide) (by decide) (by decide) (Nat.le_of_ble_eq_true rfl) (Nat.le_of_ble_eq_true rfl) d_Model_init_32 (fun q4 cA H hK1 hP hD hS => ?_)
  have ecA : cZ = cA := Option.some.inj ((hK1.2 1 _ rfl).2.symm.trans (hK1.2 2 _ rfl).2)
  subst ecA
  clear hK1
  have hP : va_P D classes [(mo, .inr (4, [.int 0, .ref q1, .ref q2, .int 0, .ref q3, .null, .null, .null, .null, .null, .int 0, .int 0, .int 0])), (q1, .inl (cI, 64, .inl (fun _ => 0))), (q2, .inl (cI, 64, .inl (fun _ => 0))), (q3, .inl (cI, 576, .inl (fun _ => 0))), (q4, .inl (cZ, 64, .inl (fun _ => 0)))] H := hP
  have hD : va_D A [(mo, .inr (4, [.int 0, .ref q1, .ref q2, .int 0, .ref q3, .null, .null, .null, .null, .null, .int 0, .int 0, .int 0])), (q1, .inl (cI, 64, .inl (fun _ => 0))), (q2, .inl (cI, 64, .inl (fun _ => 0))), (q3, .inl (cI, 576, .inl (fun _ => 0))), (q4, .inl (cZ, 64, .inl (fun _ => 0)))] := hD
  refine va_putF (D := D) (ci := 4) (v := .ref q4) (ty := (.array .boolean)) (C := R_Model) (T := F_Model) (N := 13) hx hb hts in_Model t_Model t_Model_ok n_Model hown hE.1 hP hD hS 0 rfl rfl 5 (by decide) (hts _ k_321) (fun _ h9 => h9) rfl hin rfl (by decide +kernel) rfl rfl (Nat.le_of_ble_eq_true rfl) d_Model_init_34 (fun H locs hP hD hS => ?_)
  have hP : va_P D classes [(mo, .inr (4, [.int 0, .ref q1, .ref q2, .int 0, .ref q3, .ref q4, .null, .null, .null, .null, .int 0, .int 0, .int 0])), (q1, .inl (cI, 64, .inl (fun _ => 0))), (q2, .inl (cI, 64, .inl (fun _ => 0))), (q3, .inl (cI, 576, .inl (fun _ => 0))), (q4, .inl (cZ, 64, .inl (fun _ => 0)))] H := hP
  have hD : va_D A [(mo, .inr (4, [.int 0, .ref q1, .ref q2, .int 0, .ref q3, .ref q4, .null, .null, .null, .null, .int 0, .int 0, .int 0])), (q1, .inl (cI, 64, .inl (fun _ => 0))), (q2, .inl (cI, 64, .inl (fun _ => 0))), (q3, .inl (cI, 576, .inl (fun _ => 0))), (q4, .inl (cZ, 64, .inl (fun _ => 0)))] := hD
  refine lv_aload_n hx hb d_Model_init_37 rfl (lv_at hl 0 rfl) ?_
  refine lv_bipush (v := 8) hx hb d_Model_init_38 (by decide) ?_
  refine va_newa (atype := .int) (ty := .int) (n := 8) (N' := 8) (a0 := (8, .inl (fun _ => 0))) hx hb (hts _ k_59) rfl hE.1 hP hD hS hA (fun _ => rfl) (by decide) (by decide) (by decide) (Nat.le_of_ble_eq_true rfl) (Nat.le_of_ble_eq_true rfl) d_Model_init_40 (fun q5 cA H hK1 hP hD hS => ?_)
  have ecA : cI = cA := Option.some.inj ((hK1.2 0 _ rfl).2.symm.trans (hK1.2 2 _ rfl).2)
  subst ecA
  clear hK1
  have hP : va_P D classes [(mo, .inr (4, [.int 0, .ref q1, .ref q2, .int 0, .ref q3, .ref q4, .null, .null, .null, .null, .int 0, .int 0, .int 0])), (q1, .inl (cI, 64, .inl (fun _ => 0))), (q2, .inl (cI, 64, .inl (fun _ => 0))), (q3, .inl (cI, 576, .inl (fun _ => 0))), (q4, .inl (cZ, 64, .inl (fun _ => 0))), (q5, .inl (cI, 8, .inl (fun _ => 0)))] H := hP
  have hD : va_D A [(mo, .inr (4, [.int 0, .ref q1, .ref q2, .int 0, .ref q3, .ref q4, .null, .null, .null, .null, .int 0, .int 0, .int 0])), (q1, .inl (cI, 64, .inl (fun _ => 0))), (q2, .inl (cI, 64, .inl (fun _ => 0))), (q3, .inl (cI, 576, .inl (fun _ => 0))), (q4, .inl (cZ, 64, .inl (fun _ => 0))), (q5, .inl (cI, 8, .inl (fun _ => 0)))] := hD
  refine va_putF (D := D) (ci := 4) (v := .ref q5) (ty := (.array .int)) (C := R_Model) (T := F_Model) (N := 13) hx hb hts in_Model t_Model t_Model_ok n_Model hown hE.1 hP hD hS 0 rfl rfl 6 (by decide) (hts _ k_322) (fun _ h9 => h9) rfl hin rfl (by decide +kernel) rfl rfl (Nat.le_of_ble_eq_true rfl) d_Model_init_42 (fun H locs hP hD hS => ?_)
  have hP : va_P D classes [(mo, .inr (4, [.int 0, .ref q1, .ref q2, .int 0, .ref q3, .ref q4, .ref q5, .null, .null, .null, .int 0, .int 0, .int 0])), (q1, .inl (cI, 64, .inl (fun _ => 0))), (q2, .inl (cI, 64, .inl (fun _ => 0))), (q3, .inl (cI, 576, .inl (fun _ => 0))), (q4, .inl (cZ, 64, .inl (fun _ => 0))), (q5, .inl (cI, 8, .inl (fun _ => 0)))] H := hP
  have hD : va_D A [(mo, .inr (4, [.int 0, .ref q1, .ref q2, .int 0, .ref q3, .ref q4, .ref q5, .null, .null, .null, .int 0, .int 0, .int 0])), (q1, .inl (cI, 64, .inl (fun _ => 0))), (q2, .inl (cI, 64, .inl (fun _ => 0))), (q3, .inl (cI, 576, .inl (fun _ => 0))), (q4, .inl (cZ, 64, .inl (fun _ => 0))), (q5, .inl (cI, 8, .inl (fun _ => 0)))] := hD
  refine lv_aload_n hx hb d_Model_init_45 rfl (lv_at hl 0 rfl) ?_
  refine lv_iconst (v := 4) hx hb d_Model_init_46 (by decide) ?_
  refine va_newa (atype := .int) (ty := .int) (n := 4) (N' := 4) (a0 := (4, .inl (fun _ => 0))) hx hb (hts _ k_59) rfl hE.1 hP hD hS hA (fun _ => rfl) (by decide) (by decide) (by decide) (Nat.le_of_ble_eq_true rfl) (Nat.le_of_ble_eq_true rfl) d_Model_init_47 (fun q6 cA H hK1 hP hD hS => ?_)
  have ecA : cI = cA := Option.some.inj ((hK1.2 0 _ rfl).2.symm.trans (hK1.2 2 _ rfl).2)
  subst ecA
  clear hK1
  have hP : va_P D classes [(mo, .inr (4, [.int 0, .ref q1, .ref q2, .int 0, .ref q3, .ref q4, .ref q5, .null, .null, .null, .int 0, .int 0, .int 0])), (q1, .inl (cI, 64, .inl (fun _ => 0))), (q2, .inl (cI, 64, .inl (fun _ => 0))), (q3, .inl (cI, 576, .inl (fun _ => 0))), (q4, .inl (cZ, 64, .inl (fun _ => 0))), (q5, .inl (cI, 8, .inl (fun _ => 0))), (q6, .inl (cI, 4, .inl (fun _ => 0)))] H := hP
  have hD : va_D A [(mo, .inr (4, [.int 0, .ref q1, .ref q2, .int 0, .ref q3, .ref q4, .ref q5, .null, .null, .null, .int 0, .int 0, .int 0])), (q1, .inl (cI, 64, .inl (fun _ => 0))), (q2, .inl (cI, 64, .inl (fun _ => 0))), (q3, .inl (cI, 576, .inl (fun _ => 0))), (q4, .inl (cZ, 64, .inl (fun _ => 0))), (q5, .inl (cI, 8, .inl (fun _ => 0))), (q6, .inl (cI, 4, .inl (fun _ => 0)))] := hD
  refine va_putF (D := D) (ci := 4) (v := .ref q6) (ty := (.array .int)) (C := R_Model) (T := F_Model) (N := 13) hx hb hts in_Model t_Model t_Model_ok n_Model hown hE.1 hP hD hS 0 rfl rfl 7 (by decide) (hts _ k_323) (fun _ h9 => h9) rfl hin rfl (by decide +kernel) rfl rfl (Nat.le_of_ble_eq_true rfl) d_Model_init_49 (fun H locs hP hD hS => ?_)
  have hP : va_P D classes [(mo, .inr (4, [.int 0, .ref q1, .ref q2, .int 0, .ref q3, .ref q4, .ref q5, .ref q6, .null, .null, .int 0, .int 0, .int 0])), (q1, .inl (cI, 64, .inl (fun _ => 0))), (q2, .inl (cI, 64, .inl (fun _ => 0))), (q3, .inl (cI, 576, .inl (fun _ => 0))), (q4, .inl (cZ, 64, .inl (fun _ => 0))), (q5, .inl (cI, 8, .inl (fun _ => 0))), (q6, .inl (cI, 4, .inl (fun _ => 0)))] H := hP
  have hD : va_D A [(mo, .inr (4, [.int 0, .ref q1, .ref q2, .int 0, .ref q3, .ref q4, .ref q5, .ref q6, .null, .null, .int 0, .int 0, .int 0])), (q1, .inl (cI, 64, .inl (fun _ => 0))), (q2, .inl (cI, 64, .inl (fun _ => 0))), (q3, .inl (cI, 576, .inl (fun _ => 0))), (q4, .inl (cZ, 64, .inl (fun _ => 0))), (q5, .inl (cI, 8, .inl (fun _ => 0))), (q6, .inl (cI, 4, .inl (fun _ => 0)))] := hD
  refine lv_aload_n hx hb d_Model_init_52 rfl (lv_at hl 0 rfl) ?_
  refine lv_bipush (v := 20) hx hb d_Model_init_53 (by decide) ?_
  refine va_newa (atype := .int) (ty := .int) (n := 20) (N' := 20) (a0 := (20, .inl (fun _ => 0))) hx hb (hts _ k_59) rfl hE.1 hP hD hS hA (fun _ => rfl) (by decide) (by decide) (by decide) (Nat.le_of_ble_eq_true rfl) (Nat.le_of_ble_eq_true rfl) d_Model_init_55 (fun q7 cA H hK1 hP hD hS => ?_)
  have ecA : cI = cA := Option.some.inj ((hK1.2 0 _ rfl).2.symm.trans (hK1.2 2 _ rfl).2)
  subst ecA
  clear hK1
  have hP : va_P D classes [(mo, .inr (4, [.int 0, .ref q1, .ref q2, .int 0, .ref q3, .ref q4, .ref q5, .ref q6, .null, .null, .int 0, .int 0, .int 0])), (q1, .inl (cI, 64, .inl (fun _ => 0))), (q2, .inl (cI, 64, .inl (fun _ => 0))), (q3, .inl (cI, 576, .inl (fun _ => 0))), (q4, .inl (cZ, 64, .inl (fun _ => 0))), (q5, .inl (cI, 8, .inl (fun _ => 0))), (q6, .inl (cI, 4, .inl (fun _ => 0))), (q7, .inl (cI, 20, .inl (fun _ => 0)))] H := hP
  have hD : va_D A [(mo, .inr (4, [.int 0, .ref q1, .ref q2, .int 0, .ref q3, .ref q4, .ref q5, .ref q6, .null, .null, .int 0, .int 0, .int 0])), (q1, .inl (cI, 64, .inl (fun _ => 0))), (q2, .inl (cI, 64, .inl (fun _ => 0))), (q3, .inl (cI, 576, .inl (fun _ => 0))), (q4, .inl (cZ, 64, .inl (fun _ => 0))), (q5, .inl (cI, 8, .inl (fun _ => 0))), (q6, .inl (cI, 4, .inl (fun _ => 0))), (q7, .inl (cI, 20, .inl (fun _ => 0)))] := hD
  refine va_putF (D := D) (ci := 4) (v := .ref q7) (ty := (.array .int)) (C := R_Model) (T := F_Model) (N := 13) hx hb hts in_Model t_Model t_Model_ok n_Model hown hE.1 hP hD hS 0 rfl rfl 8 (by decide) (hts _ k_324) (fun _ h9 => h9) rfl hin rfl (by decide +kernel) rfl rfl (Nat.le_of_ble_eq_true rfl) d_Model_init_57 (fun H locs hP hD hS => ?_)
  have hP : va_P D classes [(mo, .inr (4, [.int 0, .ref q1, .ref q2, .int 0, .ref q3, .ref q4, .ref q5, .ref q6, .ref q7, .null, .int 0, .int 0, .int 0])), (q1, .inl (cI, 64, .inl (fun _ => 0))), (q2, .inl (cI, 64, .inl (fun _ => 0))), (q3, .inl (cI, 576, .inl (fun _ => 0))), (q4, .inl (cZ, 64, .inl (fun _ => 0))), (q5, .inl (cI, 8, .inl (fun _ => 0))), (q6, .inl (cI, 4, .inl (fun _ => 0))), (q7, .inl (cI, 20, .inl (fun _ => 0)))] H := hP
  have hD : va_D A [(mo, .inr (4, [.int 0, .ref q1, .ref q2, .int 0, .ref q3, .ref q4, .ref q5, .ref q6, .ref q7, .null, .int 0, .int 0, .int 0])), (q1, .inl (cI, 64, .inl (fun _ => 0))), (q2, .inl (cI, 64, .inl (fun _ => 0))), (q3, .inl (cI, 576, .inl (fun _ => 0))), (q4, .inl (cZ, 64, .inl (fun _ => 0))), (q5, .inl (cI, 8, .inl (fun _ => 0))), (q6, .inl (cI, 4, .inl (fun _ => 0))), (q7, .inl (cI, 20, .inl (fun _ => 0)))] := hD
  refine lv_aload_n hx hb d_Model_init_60 rfl (lv_at hl 0 rfl) ?_
  refine lv_bipush (v := 20) hx hb d_Model_init_61 (by decide) ?_
  refine va_newa (atype := .int) (ty := .int) (n := 20) (N' := 20) (a0 := (20, .inl (fun _ => 0))) hx hb (hts _ k_59) rfl hE.1 hP hD hS hA (fun _ => rfl) (by decide) (by decide) (by decide) (Nat.le_of_ble_eq_true rfl) (Nat.le_of_ble_eq_true rfl) d_Model_init_63 (fun q8 cA H hK1 hP hD hS => ?_)
  have ecA : cI = cA := Option.some.inj ((hK1.2 0 _ rfl).2.symm.trans (hK1.2 2 _ rfl).2)
  subst ecA
  clear hK1
  have hP : va_P D classes [(mo, .inr (4, [.int 0, .ref q1, .ref q2, .int 0, .ref q3, .ref q4, .ref q5, .ref q6, .ref q7, .null, .int 0, .int 0, .int 0])), (q1, .inl (cI, 64, .inl (fun _ => 0))), (q2, .inl (cI, 64, .inl (fun _ => 0))), (q3, .inl (cI, 576, .inl (fun _ => 0))), (q4, .inl (cZ, 64, .inl (fun _ => 0))), (q5, .inl (cI, 8, .inl (fun _ => 0))), (q6, .inl (cI, 4, .inl (fun _ => 0))), (q7, .inl (cI, 20, .inl (fun _ => 0))), (q8, .inl (cI, 20, .inl (fun _ => 0)))] H := hP
  have hD : va_D A [(mo, .inr (4, [.int 0, .ref q1, .ref q2, .int 0, .ref q3, .ref q4, .ref q5, .ref q6, .ref q7, .null, .int 0, .int 0, .int 0])), (q1, .inl (cI, 64, .inl (fun _ => 0))), (q2, .inl (cI, 64, .inl (fun _ => 0))), (q3, .inl (cI, 576, .inl (fun _ => 0))), (q4, .inl (cZ, 64, .inl (fun _ => 0))), (q5, .inl (cI, 8, .inl (fun _ => 0))), (q6, .inl (cI, 4, .inl (fun _ => 0))), (q7, .inl (cI, 20, .inl (fun _ => 0))), (q8, .inl (cI, 20, .inl (fun _ => 0)))] := hD
  refine va_putF (D := D) (ci := 4) (v := .ref q8) (ty := (.array .int)) (C := R_Model) (T := F_Model) (N := 13) hx hb hts in_Model t_Model t_Model_ok n_Model hown hE.1 hP hD hS 0 rfl rfl 9 (by decide) (hts _ k_325) (fun _ h9 => h9) rfl hin rfl (by decide +kernel) rfl rfl (Nat.le_of_ble_eq_true rfl) d_Model_init_65 (fun H locs hP hD hS => ?_)
  have hP : va_P D classes [(mo, .inr (4, [.int 0, .ref q1, .ref q2, .int 0, .ref q3, .ref q4, .ref q5, .ref q6, .ref q7, .ref q8, .int 0, .int 0, .int 0])), (q1, .inl (cI, 64, .inl (fun _ => 0))), (q2, .inl (cI, 64, .inl (fun _ => 0))), (q3, .inl (cI, 576, .inl (fun _ => 0))), (q4, .inl (cZ, 64, .inl (fun _ => 0))), (q5, .inl (cI, 8, .inl (fun _ => 0))), (q6, .inl (cI, 4, .inl (fun _ => 0))), (q7, .inl (cI, 20, .inl (fun _ => 0))), (q8, .inl (cI, 20, .inl (fun _ => 0)))] H := hP
  have hD : va_D A [(mo, .inr (4, [.int 0, .ref q1, .ref q2, .int 0, .ref q3, .ref q4, .ref q5, .ref q6, .ref q7, .ref q8, .int 0, .int 0, .int 0])), (q1, .inl (cI, 64, .inl (fun _ => 0))), (q2, .inl (cI, 64, .inl (fun _ => 0))), (q3, .inl (cI, 576, .inl (fun _ => 0))), (q4, .inl (cZ, 64, .inl (fun _ => 0))), (q5, .inl (cI, 8, .inl (fun _ => 0))), (q6, .inl (cI, 4, .inl (fun _ => 0))), (q7, .inl (cI, 20, .inl (fun _ => 0))), (q8, .inl (cI, 20, .inl (fun _ => 0)))] := hD
  refine lv_aload_n hx hb d_Model_init_68 rfl (lv_at hl 0 rfl) ?_
  refine lv_iload_n hx hb d_Model_init_69 rfl (lv_at hl 1 rfl) ?_
  refine lv_iconst (v := 3) hx hb d_Model_init_70 (by decide) ?_
  refine lv_iand hx hb d_Model_init_71 ?_
  refine va_putF (D := D) (ci := 4) (v := .int (k &&& 3)) (ty := .int) (C := R_Model) (T := F_Model) (N := 13) hx hb hts in_Model t_Model t_Model_ok n_Model hown hE.1 hP hD hS 0 rfl rfl 0 (by decide) (hts _ k_316) (fun _ h9 => h9) rfl hin rfl (by decide +kernel) rfl rfl (Nat.le_of_ble_eq_true rfl) d_Model_init_72 (fun H locs hP hD hS => ?_)
  have hP : va_P D classes [(mo, .inr (4, [.int (k &&& 3), .ref q1, .ref q2, .int 0, .ref q3, .ref q4, .ref q5, .ref q6, .ref q7, .ref q8, .int 0, .int 0, .int 0])), (q1, .inl (cI, 64, .inl (fun _ => 0))), (q2, .inl (cI, 64, .inl (fun _ => 0))), (q3, .inl (cI, 576, .inl (fun _ => 0))), (q4, .inl (cZ, 64, .inl (fun _ => 0))), (q5, .inl (cI, 8, .inl (fun _ => 0))), (q6, .inl (cI, 4, .inl (fun _ => 0))), (q7, .inl (cI, 20, .inl (fun _ => 0))), (q8, .inl (cI, 20, .inl (fun _ => 0)))] H := hP
  have hD : va_D A [(mo, .inr (4, [.int (k &&& 3), .ref q1, .ref q2, .int 0, .ref q3, .ref q4, .ref q5, .ref q6, .ref q7, .ref q8, .int 0, .int 0, .int 0])), (q1, .inl (cI, 64, .inl (fun _ => 0))), (q2, .inl (cI, 64, .inl (fun _ => 0))), (q3, .inl (cI, 576, .inl (fun _ => 0))), (q4, .inl (cZ, 64, .inl (fun _ => 0))), (q5, .inl (cI, 8, .inl (fun _ => 0))), (q6, .inl (cI, 4, .inl (fun _ => 0))), (q7, .inl (cI, 20, .inl (fun _ => 0))), (q8, .inl (cI, 20, .inl (fun _ => 0)))] := hD
  refine W.vret hx hb hr (fun t ht hW => ⟨⟨(q1, q2, q3, q4, q5, q6, q7, q8), rfl, ?_, ?_⟩, hS.F ht⟩) hS.2.2 d_Model_init_75
  · trivial
  · exact ⟨by rw [ht]; exact hP.sub [0, 1, 2, 3, 4, 5, 6, 7, 8] rfl, hD.sub [0, 1, 2, 3, 4, 5, 6, 7, 8] (by decide) rfl⟩
