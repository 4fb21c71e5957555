set_option maxHeartbeats 4000000 in
set_option maxRecDepth 100000 in
theorem c_Machine_push (l : Launch) (D : va_G) (cI cZ : ClassId) (tN tG : Nat) (hz : Nat) (mc ky vy gy ly sy : Nat) (res stp pcn : Int32) (fk fv fa fl fs : Nat → Int32) (hgt ap : Int32) (v : Int32) : Met l y_Machine_push w_Machine_push (rmk 1) (va_Pc [.ref mc, .int v] (MZ D cI cZ tN tG [(mc, .inr (3, [.int res, .int stp, .int pcn, .ref ky, .ref vy, .ref gy, .ref ly, .ref sy, .int hgt, .int ap])), (ky, .inl (cI, 20, .inl fk)), (vy, .inl (cI, 20, .inl fv)), (gy, .inl (cI, 3, .inl fa)), (ly, .inl (cI, 4, .inl fl)), (sy, .inl (cI, 8, .inl fs))] hz)) (va_Qv (fun _ : Unit => True) (fun u t => ME D (va_A [(mc, .inr (3, [.int res, .int stp, .int pcn, .ref ky, .ref vy, .ref gy, .ref ly, .ref sy, .int hgt, .int ap])), (ky, .inl (cI, 20, .inl fk)), (vy, .inl (cI, 20, .inl fv)), (gy, .inl (cI, 3, .inl fa)), (ly, .inl (cI, 4, .inl fl)), (sy, .inl (cI, 8, .inl fs))] hz) [(mc, .inr (3, [.int res, .int stp, .int pcn, .ref ky, .ref vy, .ref gy, .ref ly, .ref sy, .int (hgt + 1), .int ap])), (ky, .inl (cI, 20, .inl fk)), (vy, .inl (cI, 20, .inl fv)), (gy, .inl (cI, 3, .inl fa)), (ly, .inl (cI, 4, .inl fl)), (sy, .inl (cI, 8, .inl (wr fs 8 hgt v)))] t) (va_A [(mc, .inr (3, [.int res, .int stp, .int pcn, .ref ky, .ref vy, .ref gy, .ref ly, .ref sy, .int hgt, .int ap])), (ky, .inl (cI, 20, .inl fk)), (vy, .inl (cI, 20, .inl fv)), (gy, .inl (cI, 3, .inl fa)), (ly, .inl (cI, 4, .inl fl)), (sy, .inl (cI, 8, .inl fs))] hz)) 0 0 (va_A [(mc, .inr (3, [.int res, .int stp, .int pcn, .ref ky, .ref vy, .ref gy, .ref ly, .ref sy, .int hgt, .int ap])), (ky, .inl (cI, 20, .inl fk)), (vy, .inl (cI, 20, .inl fv)), (gy, .inl (cI, 3, .inl fa)), (ly, .inl (cI, 4, .inl fl)), (sy, .inl (cI, 8, .inl fs))] hz) := by
  refine Met.ofW (cc := b_Machine_push) (maxL := 2) (ret := none) (by decide) rfl ?_
  intro p e s m args below meth c s₁ B hml hv
  obtain ⟨rfl, hsz, hP, hE, hD0, hZ⟩ := hv
  have hx := B.exec
  have hb := B.bytes
  have hr := B.returns
  have hts : ∀ w ∈ gW, w.before _ s = true := fun w h => atoms_spec (ws := w_Machine_push) B.pre w (List.mem_cons_of_mem _ h)
  have hown : s.vm.findClass R_Machine = some m.cls := findClass_of_methodNamed B.named
  have hlocks := B.notSynchronized
  subst hsz
  have hD := hD0.self (sz := s.heap.size)
  have hA : ∀ q : Nat, s.heap.size ≤ q → va_A [(mc, .inr (3, [.int res, .int stp, .int pcn, .ref ky, .ref vy, .ref gy, .ref ly, .ref sy, .int hgt, .int ap])), (ky, .inl (cI, 20, .inl fk)), (vy, .inl (cI, 20, .inl fv)), (gy, .inl (cI, 3, .inl fa)), (ly, .inl (cI, 4, .inl fl)), (sy, .inl (cI, 8, .inl fs))] s.heap.size q := fun q h => Or.inr h
  generalize va_A [(mc, .inr (3, [.int res, .int stp, .int pcn, .ref ky, .ref vy, .ref gy, .ref ly, .ref sy, .int hgt, .int ap])), (ky, .inl (cI, 20, .inl fk)), (vy, .inl (cI, 20, .inl fv)), (gy, .inl (cI, 3, .inl fa)), (ly, .inl (cI, 4, .inl fl)), (sy, .inl (cI, 8, .inl fs))] s.heap.size = A at hD hA hZ ⊢
  have hS : va_S A s.heap s.heap [] := va_S.rf
  have hP : va_P D classes [(mc, .inr (3, [.int res, .int stp, .int pcn, .ref ky, .ref vy, .ref gy, .ref ly, .ref sy, .int hgt, .int ap])), (ky, .inl (cI, 20, .inl fk)), (vy, .inl (cI, 20, .inl fv)), (gy, .inl (cI, 3, .inl fa)), (ly, .inl (cI, 4, .inl fl)), (sy, .inl (cI, 8, .inl fs))] s.heap := hP
  have hD : va_D A [(mc, .inr (3, [.int res, .int stp, .int pcn, .ref ky, .ref vy, .ref gy, .ref ly, .ref sy, .int hgt, .int ap])), (ky, .inl (cI, 20, .inl fk)), (vy, .inl (cI, 20, .inl fv)), (gy, .inl (cI, 3, .inl fa)), (ly, .inl (cI, 4, .inl fl)), (sy, .inl (cI, 8, .inl fs))] := hD
  have hl := lv_entry ([.ref mc, .int v]) (n := 2) (Nat.le_of_ble_eq_true rfl)
  rw [lg_entry_eq]
  generalize (lg_sl ([.ref mc, .int v]) ++ List.replicate (2 - (lg_sl ([.ref mc, .int v])).length) Slot.unset).toArray = ls at hl ⊢
  have hl : lv_has ls 2 [(0, .ref mc), (1, .int v)] := hl
  refine lv_aload_n hx hb d_Machine_push_0 rfl (lv_at hl 0 rfl) ?_
  refine va_get (D := D) (ci := 3) (v := .ref sy) (C := R_Machine) (T := F_Machine) (N := 10) hx hb hts in_Machine hown hE.1 hP 0 rfl rfl 7 (by decide) (hts _ k_95) (fun _ h9 => h9) rfl d_Machine_push_1 ?_
  refine lv_aload_n hx hb d_Machine_push_4 rfl (lv_at hl 0 rfl) ?_
  refine va_get (D := D) (ci := 3) (v := .int hgt) (C := R_Machine) (T := F_Machine) (N := 10) hx hb hts in_Machine hown hE.1 hP 0 rfl rfl 8 (by decide) (hts _ k_96) (fun _ h9 => h9) rfl d_Machine_push_5 ?_
  refine lv_iload_n hx hb d_Machine_push_8 rfl (lv_at hl 1 rfl) ?_
  have hPc := hP.sub (ws' := [(sy, .inl (cI, 8, .inl fs))]) [5] rfl
  have hDc := hD.sub (ws' := [(sy, .inl (cI, 8, .inl fs))]) [5] (by decide) rfl
  have hFc := va_free (wc := [(sy, .inl (cI, 8, .inl fs))]) hD hS hA [5] rfl
  refine va_callv (va_runSN (As := [.ref sy, .int hgt, .int v]) (rest := []) ⟨hx, hb, hml, hown, hts⟩ (c_SJ_write l D cI cZ tN tG s.heap.size sy 8 fs hgt v (by decide)) ⟨va_cnB 3 hts (gd k_139) rfl rfl rfl (hE.2 _ nm_7) (hts _ k_18) (by decide +kernel) ⟨Nat.le_of_ble_eq_true rfl, Nat.le_of_ble_eq_true rfl⟩, hts _ k_138, trivial⟩ ⟨MZ_blind, mz_pre hE hZ hS hPc hDc hFc⟩ rfl rfl hl.1 rfl (lv_room (Nat.le_of_ble_eq_true rfl)) d_Machine_push_9 ⟨Nat.zero_le _, Nat.zero_le _⟩) hS (fun q _ h => hFc q h) hFc (fun u t H1 locs ht hvm hw hB hz1 hk1 hS => ?_)
  obtain ⟨hP1, hD1⟩ := hB
  rw [ht] at hP1
  subst hw
  obtain ⟨hP, hD⟩ := va_join (wr := [(mc, .inr (3, [.int res, .int stp, .int pcn, .ref ky, .ref vy, .ref gy, .ref ly, .ref sy, .int hgt, .int ap])), (ky, .inl (cI, 20, .inl fk)), (vy, .inl (cI, 20, .inl fv)), (gy, .inl (cI, 3, .inl fa)), (ly, .inl (cI, 4, .inl fl))]) (w1 := [(sy, .inl (cI, 8, .inl (wr fs 8 hgt v)))]) hP hD [5] [0, 1, 2, 3, 4] rfl rfl (by decide) (by decide) hk1 hFc hP1 hD1
  generalize H1 = H at hP hS ⊢
  have hP : va_P D classes [(mc, .inr (3, [.int res, .int stp, .int pcn, .ref ky, .ref vy, .ref gy, .ref ly, .ref sy, .int hgt, .int ap])), (ky, .inl (cI, 20, .inl fk)), (vy, .inl (cI, 20, .inl fv)), (gy, .inl (cI, 3, .inl fa)), (ly, .inl (cI, 4, .inl fl)), (sy, .inl (cI, 8, .inl (wr fs 8 hgt v)))] H := hP
  have hD : va_D A [(mc, .inr (3, [.int res, .int stp, .int pcn, .ref ky, .ref vy, .ref gy, .ref ly, .ref sy, .int hgt, .int ap])), (ky, .inl (cI, 20, .inl fk)), (vy, .inl (cI, 20, .inl fv)), (gy, .inl (cI, 3, .inl fa)), (ly, .inl (cI, 4, .inl fl)), (sy, .inl (cI, 8, .inl (wr fs 8 hgt v)))] := hD
  refine lv_aload_n hx hb d_Machine_push_12 rfl (lv_at hl 0 rfl) ?_
  refine lv_dup hx hb d_Machine_push_13 rfl ?_
  refine va_get (D := D) (ci := 3) (v := .int hgt) (C := R_Machine) (T := F_Machine) (N := 10) hx hb hts in_Machine hown hE.1 hP 0 rfl rfl 8 (by decide) (hts _ k_96) (fun _ h9 => h9) rfl d_Machine_push_14 ?_
  refine lv_iconst (v := 1) hx hb d_Machine_push_17 (by decide) ?_
  refine lv_iadd hx hb d_Machine_push_18 ?_
  refine va_put (D := D) (ci := 3) (v := .int (hgt + 1)) (ty := .int) (C := R_Machine) (T := F_Machine) (N := 10) hx hb hts in_Machine t_Machine t_Machine_ok n_Machine hown hE.1 hP hD hS 0 rfl rfl 8 (by decide) (hts _ k_96) (fun _ h9 => h9) rfl (by decide +kernel) rfl rfl (Nat.le_of_ble_eq_true rfl) d_Machine_push_19 (fun H locs hP hD hS => ?_)
  have hP : va_P D classes [(mc, .inr (3, [.int res, .int stp, .int pcn, .ref ky, .ref vy, .ref gy, .ref ly, .ref sy, .int (hgt + 1), .int ap])), (ky, .inl (cI, 20, .inl fk)), (vy, .inl (cI, 20, .inl fv)), (gy, .inl (cI, 3, .inl fa)), (ly, .inl (cI, 4, .inl fl)), (sy, .inl (cI, 8, .inl (wr fs 8 hgt v)))] H := hP
  have hD : va_D A [(mc, .inr (3, [.int res, .int stp, .int pcn, .ref ky, .ref vy, .ref gy, .ref ly, .ref sy, .int (hgt + 1), .int ap])), (ky, .inl (cI, 20, .inl fk)), (vy, .inl (cI, 20, .inl fv)), (gy, .inl (cI, 3, .inl fa)), (ly, .inl (cI, 4, .inl fl)), (sy, .inl (cI, 8, .inl (wr fs 8 hgt v)))] := hD
  refine W.vret hx hb hr (fun t ht hW => ⟨⟨(), rfl, ?_, ?_⟩, hS.F ht⟩) hS.2.2 d_Machine_push_22
  · trivial
  · exact ⟨by rw [ht]; exact hP.sub [0, 1, 2, 3, 4, 5] rfl, hD.sub [0, 1, 2, 3, 4, 5] (by decide) rfl⟩
set_option maxHeartbeats 4000000 in
set_option maxRecDepth 100000 in
theorem c_Machine_pop (l : Launch) (D : va_G) (cI cZ : ClassId) (tN tG : Nat) (hz : Nat) (mc ky vy gy ly sy : Nat) (res stp pcn : Int32) (fk fv fa fl fs : Nat → Int32) (hgt ap : Int32) : Met l y_Machine_pop w_Machine_pop (rmk 1) (va_Pc [.ref mc] (MZ D cI cZ tN tG [(mc, .inr (3, [.int res, .int stp, .int pcn, .ref ky, .ref vy, .ref gy, .ref ly, .ref sy, .int hgt, .int ap])), (ky, .inl (cI, 20, .inl fk)), (vy, .inl (cI, 20, .inl fv)), (gy, .inl (cI, 3, .inl fa)), (ly, .inl (cI, 4, .inl fl)), (sy, .inl (cI, 8, .inl fs))] hz)) (va_Qi (fun (r : Int32) (_ : Unit) => r = (rd fs 8 (hgt - 1))) (fun u t => ME D (va_A [(mc, .inr (3, [.int res, .int stp, .int pcn, .ref ky, .ref vy, .ref gy, .ref ly, .ref sy, .int hgt, .int ap])), (ky, .inl (cI, 20, .inl fk)), (vy, .inl (cI, 20, .inl fv)), (gy, .inl (cI, 3, .inl fa)), (ly, .inl (cI, 4, .inl fl)), (sy, .inl (cI, 8, .inl fs))] hz) [(mc, .inr (3, [.int res, .int stp, .int pcn, .ref ky, .ref vy, .ref gy, .ref ly, .ref sy, .int (hgt - 1), .int ap])), (ky, .inl (cI, 20, .inl fk)), (vy, .inl (cI, 20, .inl fv)), (gy, .inl (cI, 3, .inl fa)), (ly, .inl (cI, 4, .inl fl)), (sy, .inl (cI, 8, .inl fs))] t) (va_A [(mc, .inr (3, [.int res, .int stp, .int pcn, .ref ky, .ref vy, .ref gy, .ref ly, .ref sy, .int hgt, .int ap])), (ky, .inl (cI, 20, .inl fk)), (vy, .inl (cI, 20, .inl fv)), (gy, .inl (cI, 3, .inl fa)), (ly, .inl (cI, 4, .inl fl)), (sy, .inl (cI, 8, .inl fs))] hz)) 0 0 (va_A [(mc, .inr (3, [.int res, .int stp, .int pcn, .ref ky, .ref vy, .ref gy, .ref ly, .ref sy, .int hgt, .int ap])), (ky, .inl (cI, 20, .inl fk)), (vy, .inl (cI, 20, .inl fv)), (gy, .inl (cI, 3, .inl fa)), (ly, .inl (cI, 4, .inl fl)), (sy, .inl (cI, 8, .inl fs))] hz) := by
  refine Met.ofW (cc := b_Machine_pop) (maxL := 1) (ret := (some .int)) (by decide) rfl ?_
  intro p e s m args below meth c s₁ B hml hv
  obtain ⟨rfl, hsz, hP, hE, hD0, hZ⟩ := hv
  have hx := B.exec
  have hb := B.bytes
  have hr := B.returns
  have hts : ∀ w ∈ gW, w.before _ s = true := fun w h => atoms_spec (ws := w_Machine_pop) B.pre w (List.mem_cons_of_mem _ h)
  have hown : s.vm.findClass R_Machine = some m.cls := findClass_of_methodNamed B.named
  have hlocks := B.notSynchronized
  subst hsz
  have hD := hD0.self (sz := s.heap.size)
  have hA : ∀ q : Nat, s.heap.size ≤ q → va_A [(mc, .inr (3, [.int res, .int stp, .int pcn, .ref ky, .ref vy, .ref gy, .ref ly, .ref sy, .int hgt, .int ap])), (ky, .inl (cI, 20, .inl fk)), (vy, .inl (cI, 20, .inl fv)), (gy, .inl (cI, 3, .inl fa)), (ly, .inl (cI, 4, .inl fl)), (sy, .inl (cI, 8, .inl fs))] s.heap.size q := fun q h => Or.inr h
  generalize va_A [(mc, .inr (3, [.int res, .int stp, .int pcn, .ref ky, .ref vy, .ref gy, .ref ly, .ref sy, .int hgt, .int ap])), (ky, .inl (cI, 20, .inl fk)), (vy, .inl (cI, 20, .inl fv)), (gy, .inl (cI, 3, .inl fa)), (ly, .inl (cI, 4, .inl fl)), (sy, .inl (cI, 8, .inl fs))] s.heap.size = A at hD hA hZ ⊢
  have hS : va_S A s.heap s.heap [] := va_S.rf
  have hP : va_P D classes [(mc, .inr (3, [.int res, .int stp, .int pcn, .ref ky, .ref vy, .ref gy, .ref ly, .ref sy, .int hgt, .int ap])), (ky, .inl (cI, 20, .inl fk)), (vy, .inl (cI, 20, .inl fv)), (gy, .inl (cI, 3, .inl fa)), (ly, .inl (cI, 4, .inl fl)), (sy, .inl (cI, 8, .inl fs))] s.heap := hP
  have hD : va_D A [(mc, .inr (3, [.int res, .int stp, .int pcn, .ref ky, .ref vy, .ref gy, .ref ly, .ref sy, .int hgt, .int ap])), (ky, .inl (cI, 20, .inl fk)), (vy, .inl (cI, 20, .inl fv)), (gy, .inl (cI, 3, .inl fa)), (ly, .inl (cI, 4, .inl fl)), (sy, .inl (cI, 8, .inl fs))] := hD
  have hl := lv_entry ([.ref mc]) (n := 1) (Nat.le_of_ble_eq_true rfl)
  rw [lg_entry_eq]
  generalize (lg_sl ([.ref mc]) ++ List.replicate (1 - (lg_sl ([.ref mc])).length) Slot.unset).toArray = ls at hl ⊢
  have hl : lv_has ls 1 [(0, .ref mc)] := hl
  refine lv_aload_n hx hb d_Machine_pop_0 rfl (lv_at hl 0 rfl) ?_
  refine lv_dup hx hb d_Machine_pop_1 rfl ?_
  refine va_get (D := D) (ci := 3) (v := .int hgt) (C := R_Machine) (T := F_Machine) (N := 10) hx hb hts in_Machine hown hE.1 hP 0 rfl rfl 8 (by decide) (hts _ k_96) (fun _ h9 => h9) rfl d_Machine_pop_2 ?_
  refine lv_iconst (v := 1) hx hb d_Machine_pop_5 (by decide) ?_
  refine lv_isub hx hb d_Machine_pop_6 ?_
  refine va_put (D := D) (ci := 3) (v := .int (hgt - 1)) (ty := .int) (C := R_Machine) (T := F_Machine) (N := 10) hx hb hts in_Machine t_Machine t_Machine_ok n_Machine hown hE.1 hP hD hS 0 rfl rfl 8 (by decide) (hts _ k_96) (fun _ h9 => h9) rfl (by decide +kernel) rfl rfl (Nat.le_of_ble_eq_true rfl) d_Machine_pop_7 (fun H locs hP hD hS => ?_)
  have hP : va_P D classes [(mc, .inr (3, [.int res, .int stp, .int pcn, .ref ky, .ref vy, .ref gy, .ref ly, .ref sy, .int (hgt - 1), .int ap])), (ky, .inl (cI, 20, .inl fk)), (vy, .inl (cI, 20, .inl fv)), (gy, .inl (cI, 3, .inl fa)), (ly, .inl (cI, 4, .inl fl)), (sy, .inl (cI, 8, .inl fs))] H := hP
  have hD : va_D A [(mc, .inr (3, [.int res, .int stp, .int pcn, .ref ky, .ref vy, .ref gy, .ref ly, .ref sy, .int (hgt - 1), .int ap])), (ky, .inl (cI, 20, .inl fk)), (vy, .inl (cI, 20, .inl fv)), (gy, .inl (cI, 3, .inl fa)), (ly, .inl (cI, 4, .inl fl)), (sy, .inl (cI, 8, .inl fs))] := hD
  refine lv_aload_n hx hb d_Machine_pop_10 rfl (lv_at hl 0 rfl) ?_
  refine va_get (D := D) (ci := 3) (v := .ref sy) (C := R_Machine) (T := F_Machine) (N := 10) hx hb hts in_Machine hown hE.1 hP 0 rfl rfl 7 (by decide) (hts _ k_95) (fun _ h9 => h9) rfl d_Machine_pop_11 ?_
  refine lv_aload_n hx hb d_Machine_pop_14 rfl (lv_at hl 0 rfl) ?_
  refine va_get (D := D) (ci := 3) (v := .int (hgt - 1)) (C := R_Machine) (T := F_Machine) (N := 10) hx hb hts in_Machine hown hE.1 hP 0 rfl rfl 8 (by decide) (hts _ k_96) (fun _ h9 => h9) rfl d_Machine_pop_15 ?_
  refine vp_callSi (va_Run.run (va_runSN (As := [.ref sy, .int (hgt - 1)]) (rest := []) ⟨hx, hb, hml, hown, hts⟩ (c_SJ_read l sy 8 fs (hgt - 1) (by decide)) ⟨va_cnB 2 hts (gd k_177) rfl rfl rfl (hE.2 _ nm_8) (hts _ k_18) (by decide +kernel) ⟨Nat.le_of_ble_eq_true rfl, Nat.le_of_ble_eq_true rfl⟩, hts _ k_176, trivial⟩ (rp_pre hE.1 hP 5 0 rfl rfl) rfl rfl hl.1 rfl (lv_room (Nat.le_of_ble_eq_true rfl)) d_Machine_pop_18 ⟨Nat.zero_le _, Nat.zero_le _⟩)) (fun r hq => ?_)
  subst hq
  refine W.iret hx hb hr (fun t ht hW => ⟨⟨(rd fs 8 (hgt - 1)), (), rfl, ?_, ?_⟩, hS.F ht⟩) hS.2.2 d_Machine_pop_21
  · rfl
  · exact ⟨by rw [ht]; exact hP.sub [0, 1, 2, 3, 4, 5] rfl, hD.sub [0, 1, 2, 3, 4, 5] (by decide) rfl⟩
set_option maxHeartbeats 4000000 in
set_option maxRecDepth 100000 in
theorem c_Machine_emit (l : Launch) (D : va_G) (cI cZ : ClassId) (tN tG : Nat) (hz : Nat) (mc ky vy gy ly sy : Nat) (res stp pcn : Int32) (fk fv fa fl fs : Nat → Int32) (hgt ap : Int32) : Met l y_Machine_emit w_Machine_emit (rmk 2) (va_Pc [.ref mc] (MZ D cI cZ tN tG [(mc, .inr (3, [.int res, .int stp, .int pcn, .ref ky, .ref vy, .ref gy, .ref ly, .ref sy, .int hgt, .int ap])), (ky, .inl (cI, 20, .inl fk)), (vy, .inl (cI, 20, .inl fv)), (gy, .inl (cI, 3, .inl fa)), (ly, .inl (cI, 4, .inl fl)), (sy, .inl (cI, 8, .inl fs))] hz)) (va_Qi (fun (r : Int32) (u : MS) => (r, u) = m_emit (res, stp, pcn, fk, fv, fa, fl, fs, hgt, ap)) (fun u t => ME D (va_A [(mc, .inr (3, [.int res, .int stp, .int pcn, .ref ky, .ref vy, .ref gy, .ref ly, .ref sy, .int hgt, .int ap])), (ky, .inl (cI, 20, .inl fk)), (vy, .inl (cI, 20, .inl fv)), (gy, .inl (cI, 3, .inl fa)), (ly, .inl (cI, 4, .inl fl)), (sy, .inl (cI, 8, .inl fs))] hz) [(mc, .inr (3, [.int u.1, .int u.2.1, .int u.2.2.1, .ref ky, .ref vy, .ref gy, .ref ly, .ref sy, .int u.2.2.2.2.2.2.2.2.1, .int u.2.2.2.2.2.2.2.2.2])), (ky, .inl (cI, 20, .inl u.2.2.2.1)), (vy, .inl (cI, 20, .inl u.2.2.2.2.1)), (gy, .inl (cI, 3, .inl u.2.2.2.2.2.1)), (ly, .inl (cI, 4, .inl u.2.2.2.2.2.2.1)), (sy, .inl (cI, 8, .inl u.2.2.2.2.2.2.2.1))] t) (va_A [(mc, .inr (3, [.int res, .int stp, .int pcn, .ref ky, .ref vy, .ref gy, .ref ly, .ref sy, .int hgt, .int ap])), (ky, .inl (cI, 20, .inl fk)), (vy, .inl (cI, 20, .inl fv)), (gy, .inl (cI, 3, .inl fa)), (ly, .inl (cI, 4, .inl fl)), (sy, .inl (cI, 8, .inl fs))] hz)) 0 0 (va_A [(mc, .inr (3, [.int res, .int stp, .int pcn, .ref ky, .ref vy, .ref gy, .ref ly, .ref sy, .int hgt, .int ap])), (ky, .inl (cI, 20, .inl fk)), (vy, .inl (cI, 20, .inl fv)), (gy, .inl (cI, 3, .inl fa)), (ly, .inl (cI, 4, .inl fl)), (sy, .inl (cI, 8, .inl fs))] hz) := by
  refine Met.ofW (cc := b_Machine_emit) (maxL := 1) (ret := (some .int)) (by decide) rfl ?_
  intro p e s m args below meth c s₁ B hml hv
  obtain ⟨rfl, hsz, hP, hE, hD0, hZ⟩ := hv
  have hx := B.exec
  have hb := B.bytes
  have hr := B.returns
  have hts : ∀ w ∈ gW, w.before _ s = true := fun w h => atoms_spec (ws := w_Machine_emit) B.pre w (List.mem_cons_of_mem _ h)
  have hown : s.vm.findClass R_Machine = some m.cls := findClass_of_methodNamed B.named
  have hlocks := B.notSynchronized
  subst hsz
  have hD := hD0.self (sz := s.heap.size)
  have hA : ∀ q : Nat, s.heap.size ≤ q → va_A [(mc, .inr (3, [.int res, .int stp, .int pcn, .ref ky, .ref vy, .ref gy, .ref ly, .ref sy, .int hgt, .int ap])), (ky, .inl (cI, 20, .inl fk)), (vy, .inl (cI, 20, .inl fv)), (gy, .inl (cI, 3, .inl fa)), (ly, .inl (cI, 4, .inl fl)), (sy, .inl (cI, 8, .inl fs))] s.heap.size q := fun q h => Or.inr h
  generalize va_A [(mc, .inr (3, [.int res, .int stp, .int pcn, .ref ky, .ref vy, .ref gy, .ref ly, .ref sy, .int hgt, .int ap])), (ky, .inl (cI, 20, .inl fk)), (vy, .inl (cI, 20, .inl fv)), (gy, .inl (cI, 3, .inl fa)), (ly, .inl (cI, 4, .inl fl)), (sy, .inl (cI, 8, .inl fs))] s.heap.size = A at hD hA hZ ⊢
  have hS : va_S A s.heap s.heap [] := va_S.rf
  have hP : va_P D classes [(mc, .inr (3, [.int res, .int stp, .int pcn, .ref ky, .ref vy, .ref gy, .ref ly, .ref sy, .int hgt, .int ap])), (ky, .inl (cI, 20, .inl fk)), (vy, .inl (cI, 20, .inl fv)), (gy, .inl (cI, 3, .inl fa)), (ly, .inl (cI, 4, .inl fl)), (sy, .inl (cI, 8, .inl fs))] s.heap := hP
  have hD : va_D A [(mc, .inr (3, [.int res, .int stp, .int pcn, .ref ky, .ref vy, .ref gy, .ref ly, .ref sy, .int hgt, .int ap])), (ky, .inl (cI, 20, .inl fk)), (vy, .inl (cI, 20, .inl fv)), (gy, .inl (cI, 3, .inl fa)), (ly, .inl (cI, 4, .inl fl)), (sy, .inl (cI, 8, .inl fs))] := hD
  have hl := lv_entry ([.ref mc]) (n := 1) (Nat.le_of_ble_eq_true rfl)
  rw [lg_entry_eq]
  generalize (lg_sl ([.ref mc]) ++ List.replicate (1 - (lg_sl ([.ref mc])).length) Slot.unset).toArray = ls at hl ⊢
  have hl : lv_has ls 1 [(0, .ref mc)] := hl
  refine lv_aload_n hx hb d_Machine_emit_0 rfl (lv_at hl 0 rfl) ?_
  refine va_get (D := D) (ci := 3) (v := .int pcn) (C := R_Machine) (T := F_Machine) (N := 10) hx hb hts in_Machine hown hE.1 hP 0 rfl rfl 2 (by decide) (hts _ k_87) (fun _ h9 => h9) rfl d_Machine_emit_1 ?_
  refine lv_bipush (v := 20) hx hb d_Machine_emit_4 (by decide) ?_
  refine lv_icmp_lt (tgt := 11) hx hb d_Machine_emit_6 (by decide) (fun h1 => ?_) (fun h1 => ?_)
  · -- pcn < 20
    refine lv_aload_n hx hb d_Machine_emit_11 rfl (lv_at hl 0 rfl) ?_
    refine va_get (D := D) (ci := 3) (v := .ref vy) (C := R_Machine) (T := F_Machine) (N := 10) hx hb hts in_Machine hown hE.1 hP 0 rfl rfl 4 (by decide) (hts _ k_91) (fun _ h9 => h9) rfl d_Machine_emit_12 ?_
    refine lv_aload_n hx hb d_Machine_emit_15 rfl (lv_at hl 0 rfl) ?_
    refine va_get (D := D) (ci := 3) (v := .int pcn) (C := R_Machine) (T := F_Machine) (N := 10) hx hb hts in_Machine hown hE.1 hP 0 rfl rfl 2 (by decide) (hts _ k_87) (fun _ h9 => h9) rfl d_Machine_emit_16 ?_
    refine lv_aload_n hx hb d_Machine_emit_19 rfl (lv_at hl 0 rfl) ?_
    have hPc := hP.sub (ws' := [(mc, .inr (3, [.int res, .int stp, .int pcn, .ref ky, .ref vy, .ref gy, .ref ly, .ref sy, .int hgt, .int ap])), (ky, .inl (cI, 20, .inl fk)), (vy, .inl (cI, 20, .inl fv)), (gy, .inl (cI, 3, .inl fa)), (ly, .inl (cI, 4, .inl fl)), (sy, .inl (cI, 8, .inl fs))]) [0, 1, 2, 3, 4, 5] rfl
    have hDc := hD.sub (ws' := [(mc, .inr (3, [.int res, .int stp, .int pcn, .ref ky, .ref vy, .ref gy, .ref ly, .ref sy, .int hgt, .int ap])), (ky, .inl (cI, 20, .inl fk)), (vy, .inl (cI, 20, .inl fv)), (gy, .inl (cI, 3, .inl fa)), (ly, .inl (cI, 4, .inl fl)), (sy, .inl (cI, 8, .inl fs))]) [0, 1, 2, 3, 4, 5] (by decide) rfl
    have hFc := va_free (wc := [(mc, .inr (3, [.int res, .int stp, .int pcn, .ref ky, .ref vy, .ref gy, .ref ly, .ref sy, .int hgt, .int ap])), (ky, .inl (cI, 20, .inl fk)), (vy, .inl (cI, 20, .inl fv)), (gy, .inl (cI, 3, .inl fa)), (ly, .inl (cI, 4, .inl fl)), (sy, .inl (cI, 8, .inl fs))]) hD hS hA [0, 1, 2, 3, 4, 5] rfl
    refine va_calli (va_runV (As := []) (rest := [.int pcn, .ref vy]) ⟨hx, hb, hml, hown, hts⟩ (c_Machine_pop l D cI cZ tN tG s.heap.size mc ky vy gy ly sy res stp pcn fk fv fa fl fs hgt ap) (cwV 0 hts (gd4 k_270 k_272 k_7 k_21 k_273) rfl rfl rfl (by decide +kernel) ⟨Nat.le_of_ble_eq_true rfl, Nat.le_of_ble_eq_true rfl⟩) ⟨MZ_blind, va_recv (q0 := 0) (ci := 3) hE.1 hP rfl rfl, mz_pre hE hZ hS hPc hDc hFc⟩ rfl rfl hl.1 rfl (lv_room (Nat.le_of_ble_eq_true rfl)) d_Machine_emit_20 ⟨Nat.zero_le _, Nat.zero_le _⟩) hS (fun q _ h => hFc q h) hFc (fun r u t H1 locs ht hvm hw hB hz1 hk1 hS => ?_)
    obtain ⟨hP1, hD1⟩ := hB
    rw [ht] at hP1
    subst hw
    obtain ⟨hP, hD⟩ := va_join (wr := []) (w1 := [(mc, .inr (3, [.int res, .int stp, .int pcn, .ref ky, .ref vy, .ref gy, .ref ly, .ref sy, .int (hgt - 1), .int ap])), (ky, .inl (cI, 20, .inl fk)), (vy, .inl (cI, 20, .inl fv)), (gy, .inl (cI, 3, .inl fa)), (ly, .inl (cI, 4, .inl fl)), (sy, .inl (cI, 8, .inl fs))]) hP hD [0, 1, 2, 3, 4, 5] [] rfl rfl (by decide) (by decide) hk1 hFc hP1 hD1
    generalize H1 = H at hP hS ⊢
    have hP : va_P D classes [(mc, .inr (3, [.int res, .int stp, .int pcn, .ref ky, .ref vy, .ref gy, .ref ly, .ref sy, .int (hgt - 1), .int ap])), (ky, .inl (cI, 20, .inl fk)), (vy, .inl (cI, 20, .inl fv)), (gy, .inl (cI, 3, .inl fa)), (ly, .inl (cI, 4, .inl fl)), (sy, .inl (cI, 8, .inl fs))] H := hP
    have hD : va_D A [(mc, .inr (3, [.int res, .int stp, .int pcn, .ref ky, .ref vy, .ref gy, .ref ly, .ref sy, .int (hgt - 1), .int ap])), (ky, .inl (cI, 20, .inl fk)), (vy, .inl (cI, 20, .inl fv)), (gy, .inl (cI, 3, .inl fa)), (ly, .inl (cI, 4, .inl fl)), (sy, .inl (cI, 8, .inl fs))] := hD
    have hPc := hP.sub (ws' := [(vy, .inl (cI, 20, .inl fv))]) [2] rfl
    have hDc := hD.sub (ws' := [(vy, .inl (cI, 20, .inl fv))]) [2] (by decide) rfl
    have hFc := va_free (wc := [(vy, .inl (cI, 20, .inl fv))]) hD hS hA [2] rfl
    refine va_callv (va_runSN (As := [.ref vy, .int pcn, .int (rd fs 8 (hgt - 1))]) (rest := []) ⟨hx, hb, hml, hown, hts⟩ (c_SJ_write l D cI cZ tN tG H.size vy 20 fv pcn (rd fs 8 (hgt - 1)) (by decide)) ⟨va_cnB 3 hts (gd k_139) rfl rfl rfl (hE.2 _ nm_7) (hts _ k_18) (by decide +kernel) ⟨Nat.le_of_ble_eq_true rfl, Nat.le_of_ble_eq_true rfl⟩, hts _ k_138, trivial⟩ ⟨MZ_blind, mz_pre hE hZ hS hPc hDc hFc⟩ rfl rfl hl.1 rfl (lv_room (Nat.le_of_ble_eq_true rfl)) d_Machine_emit_23 ⟨Nat.zero_le _, Nat.zero_le _⟩) hS (fun q _ h => hFc q h) hFc (fun u t H1 locs ht hvm hw hB hz1 hk1 hS => ?_)
    obtain ⟨hP1, hD1⟩ := hB
    rw [ht] at hP1
    subst hw
    obtain ⟨hP, hD⟩ := va_join (wr := [(mc, .inr (3, [.int res, .int stp, .int pcn, .ref ky, .ref vy, .ref gy, .ref ly, .ref sy, .int (hgt - 1), .int ap])), (ky, .inl (cI, 20, .inl fk)), (gy, .inl (cI, 3, .inl fa)), (ly, .inl (cI, 4, .inl fl)), (sy, .inl (cI, 8, .inl fs))]) (w1 := [(vy, .inl (cI, 20, .inl (wr fv 20 pcn (rd fs 8 (hgt - 1)))))]) hP hD [2] [0, 1, 3, 4, 5] rfl rfl (by decide) (by decide) hk1 hFc hP1 hD1
    generalize H1 = H at hP hS ⊢
    have hP : va_P D classes [(mc, .inr (3, [.int res, .int stp, .int pcn, .ref ky, .ref vy, .ref gy, .ref ly, .ref sy, .int (hgt - 1), .int ap])), (ky, .inl (cI, 20, .inl fk)), (gy, .inl (cI, 3, .inl fa)), (ly, .inl (cI, 4, .inl fl)), (sy, .inl (cI, 8, .inl fs)), (vy, .inl (cI, 20, .inl (wr fv 20 pcn (rd fs 8 (hgt - 1)))))] H := hP
    have hD : va_D A [(mc, .inr (3, [.int res, .int stp, .int pcn, .ref ky, .ref vy, .ref gy, .ref ly, .ref sy, .int (hgt - 1), .int ap])), (ky, .inl (cI, 20, .inl fk)), (gy, .inl (cI, 3, .inl fa)), (ly, .inl (cI, 4, .inl fl)), (sy, .inl (cI, 8, .inl fs)), (vy, .inl (cI, 20, .inl (wr fv 20 pcn (rd fs 8 (hgt - 1)))))] := hD
    refine lv_aload_n hx hb d_Machine_emit_26 rfl (lv_at hl 0 rfl) ?_
    refine va_get (D := D) (ci := 3) (v := .ref ky) (C := R_Machine) (T := F_Machine) (N := 10) hx hb hts in_Machine hown hE.1 hP 0 rfl rfl 3 (by decide) (hts _ k_89) (fun _ h9 => h9) rfl d_Machine_emit_27 ?_
    refine lv_aload_n hx hb d_Machine_emit_30 rfl (lv_at hl 0 rfl) ?_
    refine va_get (D := D) (ci := 3) (v := .int pcn) (C := R_Machine) (T := F_Machine) (N := 10) hx hb hts in_Machine hown hE.1 hP 0 rfl rfl 2 (by decide) (hts _ k_87) (fun _ h9 => h9) rfl d_Machine_emit_31 ?_
    refine lv_aload_n hx hb d_Machine_emit_34 rfl (lv_at hl 0 rfl) ?_
    have hPc := hP.sub (ws' := [(mc, .inr (3, [.int res, .int stp, .int pcn, .ref ky, .ref vy, .ref gy, .ref ly, .ref sy, .int (hgt - 1), .int ap])), (ky, .inl (cI, 20, .inl fk)), (vy, .inl (cI, 20, .inl (wr fv 20 pcn (rd fs 8 (hgt - 1))))), (gy, .inl (cI, 3, .inl fa)), (ly, .inl (cI, 4, .inl fl)), (sy, .inl (cI, 8, .inl fs))]) [0, 1, 5, 2, 3, 4] rfl
    have hDc := hD.sub (ws' := [(mc, .inr (3, [.int res, .int stp, .int pcn, .ref ky, .ref vy, .ref gy, .ref ly, .ref sy, .int (hgt - 1), .int ap])), (ky, .inl (cI, 20, .inl fk)), (vy, .inl (cI, 20, .inl (wr fv 20 pcn (rd fs 8 (hgt - 1))))), (gy, .inl (cI, 3, .inl fa)), (ly, .inl (cI, 4, .inl fl)), (sy, .inl (cI, 8, .inl fs))]) [0, 1, 5, 2, 3, 4] (by decide) rfl
    have hFc := va_free (wc := [(mc, .inr (3, [.int res, .int stp, .int pcn, .ref ky, .ref vy, .ref gy, .ref ly, .ref sy, .int (hgt - 1), .int ap])), (ky, .inl (cI, 20, .inl fk)), (vy, .inl (cI, 20, .inl (wr fv 20 pcn (rd fs 8 (hgt - 1))))), (gy, .inl (cI, 3, .inl fa)), (ly, .inl (cI, 4, .inl fl)), (sy, .inl (cI, 8, .inl fs))]) hD hS hA [0, 1, 5, 2, 3, 4] rfl
    refine va_calli (va_runV (As := []) (rest := [.int pcn, .ref ky]) ⟨hx, hb, hml, hown, hts⟩ (c_Machine_pop l D cI cZ tN tG H.size mc ky vy gy ly sy res stp pcn fk (wr fv 20 pcn (rd fs 8 (hgt - 1))) fa fl fs (hgt - 1) ap) (cwV 0 hts (gd4 k_270 k_272 k_7 k_21 k_273) rfl rfl rfl (by decide +kernel) ⟨Nat.le_of_ble_eq_true rfl, Nat.le_of_ble_eq_true rfl⟩) ⟨MZ_blind, va_recv (q0 := 0) (ci := 3) hE.1 hP rfl rfl, mz_pre hE hZ hS hPc hDc hFc⟩ rfl rfl hl.1 rfl (lv_room (Nat.le_of_ble_eq_true rfl)) d_Machine_emit_35 ⟨Nat.zero_le _, Nat.zero_le _⟩) hS (fun q _ h => hFc q h) hFc (fun r u t H1 locs ht hvm hw hB hz1 hk1 hS => ?_)
    obtain ⟨hP1, hD1⟩ := hB
    rw [ht] at hP1
    subst hw
    obtain ⟨hP, hD⟩ := va_join (wr := []) (w1 := [(mc, .inr (3, [.int res, .int stp, .int pcn, .ref ky, .ref vy, .ref gy, .ref ly, .ref sy, .int ((hgt - 1) - 1), .int ap])), (ky, .inl (cI, 20, .inl fk)), (vy, .inl (cI, 20, .inl (wr fv 20 pcn (rd fs 8 (hgt - 1))))), (gy, .inl (cI, 3, .inl fa)), (ly, .inl (cI, 4, .inl fl)), (sy, .inl (cI, 8, .inl fs))]) hP hD [0, 1, 5, 2, 3, 4] [] rfl rfl (by decide) (by decide) hk1 hFc hP1 hD1
    generalize H1 = H at hP hS ⊢
    have hP : va_P D classes [(mc, .inr (3, [.int res, .int stp, .int pcn, .ref ky, .ref vy, .ref gy, .ref ly, .ref sy, .int ((hgt - 1) - 1), .int ap])), (ky, .inl (cI, 20, .inl fk)), (vy, .inl (cI, 20, .inl (wr fv 20 pcn (rd fs 8 (hgt - 1))))), (gy, .inl (cI, 3, .inl fa)), (ly, .inl (cI, 4, .inl fl)), (sy, .inl (cI, 8, .inl fs))] H := hP
    have hD : va_D A [(mc, .inr (3, [.int res, .int stp, .int pcn, .ref ky, .ref vy, .ref gy, .ref ly, .ref sy, .int ((hgt - 1) - 1), .int ap])), (ky, .inl (cI, 20, .inl fk)), (vy, .inl (cI, 20, .inl (wr fv 20 pcn (rd fs 8 (hgt - 1))))), (gy, .inl (cI, 3, .inl fa)), (ly, .inl (cI, 4, .inl fl)), (sy, .inl (cI, 8, .inl fs))] := hD
    have hPc := hP.sub (ws' := [(ky, .inl (cI, 20, .inl fk))]) [1] rfl
    have hDc := hD.sub (ws' := [(ky, .inl (cI, 20, .inl fk))]) [1] (by decide) rfl
    have hFc := va_free (wc := [(ky, .inl (cI, 20, .inl fk))]) hD hS hA [1] rfl
    refine va_callv (va_runSN (As := [.ref ky, .int pcn, .int (rd fs 8 ((hgt - 1) - 1))]) (rest := []) ⟨hx, hb, hml, hown, hts⟩ (c_SJ_write l D cI cZ tN tG H.size ky 20 fk pcn (rd fs 8 ((hgt - 1) - 1)) (by decide)) ⟨va_cnB 3 hts (gd k_139) rfl rfl rfl (hE.2 _ nm_7) (hts _ k_18) (by decide +kernel) ⟨Nat.le_of_ble_eq_true rfl, Nat.le_of_ble_eq_true rfl⟩, hts _ k_138, trivial⟩ ⟨MZ_blind, mz_pre hE hZ hS hPc hDc hFc⟩ rfl rfl hl.1 rfl (lv_room (Nat.le_of_ble_eq_true rfl)) d_Machine_emit_38 ⟨Nat.zero_le _, Nat.zero_le _⟩) hS (fun q _ h => hFc q h) hFc (fun u t H1 locs ht hvm hw hB hz1 hk1 hS => ?_)
    obtain ⟨hP1, hD1⟩ := hB
    rw [ht] at hP1
    subst hw
    obtain ⟨hP, hD⟩ := va_join (wr := [(mc, .inr (3, [.int res, .int stp, .int pcn, .ref ky, .ref vy, .ref gy, .ref ly, .ref sy, .int ((hgt - 1) - 1), .int ap])), (vy, .inl (cI, 20, .inl (wr fv 20 pcn (rd fs 8 (hgt - 1))))), (gy, .inl (cI, 3, .inl fa)), (ly, .inl (cI, 4, .inl fl)), (sy, .inl (cI, 8, .inl fs))]) (w1 := [(ky, .inl (cI, 20, .inl (wr fk 20 pcn (rd fs 8 ((hgt - 1) - 1)))))]) hP hD [1] [0, 2, 3, 4, 5] rfl rfl (by decide) (by decide) hk1 hFc hP1 hD1
    generalize H1 = H at hP hS ⊢
    have hP : va_P D classes [(mc, .inr (3, [.int res, .int stp, .int pcn, .ref ky, .ref vy, .ref gy, .ref ly, .ref sy, .int ((hgt - 1) - 1), .int ap])), (vy, .inl (cI, 20, .inl (wr fv 20 pcn (rd fs 8 (hgt - 1))))), (gy, .inl (cI, 3, .inl fa)), (ly, .inl (cI, 4, .inl fl)), (sy, .inl (cI, 8, .inl fs)), (ky, .inl (cI, 20, .inl (wr fk 20 pcn (rd fs 8 ((hgt - 1) - 1)))))] H := hP
    have hD : va_D A [(mc, .inr (3, [.int res, .int stp, .int pcn, .ref ky, .ref vy, .ref gy, .ref ly, .ref sy, .int ((hgt - 1) - 1), .int ap])), (vy, .inl (cI, 20, .inl (wr fv 20 pcn (rd fs 8 (hgt - 1))))), (gy, .inl (cI, 3, .inl fa)), (ly, .inl (cI, 4, .inl fl)), (sy, .inl (cI, 8, .inl fs)), (ky, .inl (cI, 20, .inl (wr fk 20 pcn (rd fs 8 ((hgt - 1) - 1)))))] := hD
    refine lv_aload_n hx hb d_Machine_emit_41 rfl (lv_at hl 0 rfl) ?_
    refine lv_dup hx hb d_Machine_emit_42 rfl ?_
    refine va_get (D := D) (ci := 3) (v := .int pcn) (C := R_Machine) (T := F_Machine) (N := 10) hx hb hts in_Machine hown hE.1 hP 0 rfl rfl 2 (by decide) (hts _ k_87) (fun _ h9 => h9) rfl d_Machine_emit_43 ?_
    refine lv_iconst (v := 1) hx hb d_Machine_emit_46 (by decide) ?_
    refine lv_iadd hx hb d_Machine_emit_47 ?_
    refine va_put (D := D) (ci := 3) (v := .int (pcn + 1)) (ty := .int) (C := R_Machine) (T := F_Machine) (N := 10) hx hb hts in_Machine t_Machine t_Machine_ok n_Machine hown hE.1 hP hD hS 0 rfl rfl 2 (by decide) (hts _ k_87) (fun _ h9 => h9) rfl (by decide +kernel) rfl rfl (Nat.le_of_ble_eq_true rfl) d_Machine_emit_48 (fun H locs hP hD hS => ?_)
    have hP : va_P D classes [(mc, .inr (3, [.int res, .int stp, .int (pcn + 1), .ref ky, .ref vy, .ref gy, .ref ly, .ref sy, .int ((hgt - 1) - 1), .int ap])), (vy, .inl (cI, 20, .inl (wr fv 20 pcn (rd fs 8 (hgt - 1))))), (gy, .inl (cI, 3, .inl fa)), (ly, .inl (cI, 4, .inl fl)), (sy, .inl (cI, 8, .inl fs)), (ky, .inl (cI, 20, .inl (wr fk 20 pcn (rd fs 8 ((hgt - 1) - 1)))))] H := hP
    have hD : va_D A [(mc, .inr (3, [.int res, .int stp, .int (pcn + 1), .ref ky, .ref vy, .ref gy, .ref ly, .ref sy, .int ((hgt - 1) - 1), .int ap])), (vy, .inl (cI, 20, .inl (wr fv 20 pcn (rd fs 8 (hgt - 1))))), (gy, .inl (cI, 3, .inl fa)), (ly, .inl (cI, 4, .inl fl)), (sy, .inl (cI, 8, .inl fs)), (ky, .inl (cI, 20, .inl (wr fk 20 pcn (rd fs 8 ((hgt - 1) - 1)))))] := hD
    refine lv_iconst (v := 3) hx hb d_Machine_emit_51 (by decide) ?_
    refine W.iret hx hb hr (fun t ht hW => ⟨⟨3, (res, stp, (pcn + 1), (wr fk 20 pcn (rd fs 8 ((hgt - 1) - 1))), (wr fv 20 pcn (rd fs 8 (hgt - 1))), fa, fl, fs, ((hgt - 1) - 1), ap), rfl, ?_, ?_⟩, hS.F ht⟩) hS.2.2 d_Machine_emit_52
    · first | (simp only [m_emit, h1, if_true, if_false, eq_self, not_true_eq_false, not_false_eq_true, ne_eq]; done) | (simp only [m_emit, h1, if_true, if_false, eq_self, not_true_eq_false, not_false_eq_true, ne_eq]; rfl) | (simp [m_emit, h1]; done)
    · exact ⟨by rw [ht]; exact hP.sub [0, 5, 1, 2, 3, 4] rfl, hD.sub [0, 5, 1, 2, 3, 4] (by decide) rfl⟩
  · -- ¬ pcn < 20
    refine lv_iconst (v := 2) hx hb d_Machine_emit_9 (by decide) ?_
    refine W.iret hx hb hr (fun t ht hW => ⟨⟨2, (res, stp, pcn, fk, fv, fa, fl, fs, hgt, ap), rfl, ?_, ?_⟩, hS.F ht⟩) hS.2.2 d_Machine_emit_10
    · first | (simp only [m_emit, h1, if_true, if_false, eq_self, not_true_eq_false, not_false_eq_true, ne_eq]; done) | (simp only [m_emit, h1, if_true, if_false, eq_self, not_true_eq_false, not_false_eq_true, ne_eq]; rfl) | (simp [m_emit, h1]; done)
    · exact ⟨by rw [ht]; exact hP.sub [0, 1, 2, 3, 4, 5] rfl, hD.sub [0, 1, 2, 3, 4, 5] (by decide) rfl⟩
set_option maxHeartbeats 4000000 in
set_option maxRecDepth 100000 in
theorem c_Machine_move (l : Launch) (D : va_G) (cI cZ : ClassId) (tN tG : Nat) (hz : Nat) (mc ky vy gy ly sy : Nat) (res stp pcn : Int32) (fk fv fa fl fs : Nat → Int32) (hgt ap : Int32) (op n : Int32) : Met l y_Machine_move w_Machine_move (rmk 2) (va_Pc [.ref mc, .int op, .int n] (MZ D cI cZ tN tG [(mc, .inr (3, [.int res, .int stp, .int pcn, .ref ky, .ref vy, .ref gy, .ref ly, .ref sy, .int hgt, .int ap])), (ky, .inl (cI, 20, .inl fk)), (vy, .inl (cI, 20, .inl fv)), (gy, .inl (cI, 3, .inl fa)), (ly, .inl (cI, 4, .inl fl)), (sy, .inl (cI, 8, .inl fs))] hz)) (va_Qv (fun u : MS => u = m_move op n (res, stp, pcn, fk, fv, fa, fl, fs, hgt, ap)) (fun u t => ME D (va_A [(mc, .inr (3, [.int res, .int stp, .int pcn, .ref ky, .ref vy, .ref gy, .ref ly, .ref sy, .int hgt, .int ap])), (ky, .inl (cI, 20, .inl fk)), (vy, .inl (cI, 20, .inl fv)), (gy, .inl (cI, 3, .inl fa)), (ly, .inl (cI, 4, .inl fl)), (sy, .inl (cI, 8, .inl fs))] hz) [(mc, .inr (3, [.int u.1, .int u.2.1, .int u.2.2.1, .ref ky, .ref vy, .ref gy, .ref ly, .ref sy, .int u.2.2.2.2.2.2.2.2.1, .int u.2.2.2.2.2.2.2.2.2])), (ky, .inl (cI, 20, .inl u.2.2.2.1)), (vy, .inl (cI, 20, .inl u.2.2.2.2.1)), (gy, .inl (cI, 3, .inl u.2.2.2.2.2.1)), (ly, .inl (cI, 4, .inl u.2.2.2.2.2.2.1)), (sy, .inl (cI, 8, .inl u.2.2.2.2.2.2.2.1))] t) (va_A [(mc, .inr (3, [.int res, .int stp, .int pcn, .ref ky, .ref vy, .ref gy, .ref ly, .ref sy, .int hgt, .int ap])), (ky, .inl (cI, 20, .inl fk)), (vy, .inl (cI, 20, .inl fv)), (gy, .inl (cI, 3, .inl fa)), (ly, .inl (cI, 4, .inl fl)), (sy, .inl (cI, 8, .inl fs))] hz)) 0 0 (va_A [(mc, .inr (3, [.int res, .int stp, .int pcn, .ref ky, .ref vy, .ref gy, .ref ly, .ref sy, .int hgt, .int ap])), (ky, .inl (cI, 20, .inl fk)), (vy, .inl (cI, 20, .inl fv)), (gy, .inl (cI, 3, .inl fa)), (ly, .inl (cI, 4, .inl fl)), (sy, .inl (cI, 8, .inl fs))] hz) := by
  refine Met.ofW (cc := b_Machine_move) (maxL := 8) (ret := none) (by decide) rfl ?_
  intro p e s m args below meth c s₁ B hml hv
  obtain ⟨rfl, hsz, hP, hE, hD0, hZ⟩ := hv
  have hx := B.exec
  have hb := B.bytes
  have hr := B.returns
  have hts : ∀ w ∈ gW, w.before _ s = true := fun w h => atoms_spec (ws := w_Machine_move) B.pre w (List.mem_cons_of_mem _ h)
  have hown : s.vm.findClass R_Machine = some m.cls := findClass_of_methodNamed B.named
  have hlocks := B.notSynchronized
  subst hsz
  have hD := hD0.self (sz := s.heap.size)
  have hA : ∀ q : Nat, s.heap.size ≤ q → va_A [(mc, .inr (3, [.int res, .int stp, .int pcn, .ref ky, .ref vy, .ref gy, .ref ly, .ref sy, .int hgt, .int ap])), (ky, .inl (cI, 20, .inl fk)), (vy, .inl (cI, 20, .inl fv)), (gy, .inl (cI, 3, .inl fa)), (ly, .inl (cI, 4, .inl fl)), (sy, .inl (cI, 8, .inl fs))] s.heap.size q := fun q h => Or.inr h
  generalize va_A [(mc, .inr (3, [.int res, .int stp, .int pcn, .ref ky, .ref vy, .ref gy, .ref ly, .ref sy, .int hgt, .int ap])), (ky, .inl (cI, 20, .inl fk)), (vy, .inl (cI, 20, .inl fv)), (gy, .inl (cI, 3, .inl fa)), (ly, .inl (cI, 4, .inl fl)), (sy, .inl (cI, 8, .inl fs))] s.heap.size = A at hD hA hZ ⊢
  have hS : va_S A s.heap s.heap [] := va_S.rf
  have hP : va_P D classes [(mc, .inr (3, [.int res, .int stp, .int pcn, .ref ky, .ref vy, .ref gy, .ref ly, .ref sy, .int hgt, .int ap])), (ky, .inl (cI, 20, .inl fk)), (vy, .inl (cI, 20, .inl fv)), (gy, .inl (cI, 3, .inl fa)), (ly, .inl (cI, 4, .inl fl)), (sy, .inl (cI, 8, .inl fs))] s.heap := hP
  have hD : va_D A [(mc, .inr (3, [.int res, .int stp, .int pcn, .ref ky, .ref vy, .ref gy, .ref ly, .ref sy, .int hgt, .int ap])), (ky, .inl (cI, 20, .inl fk)), (vy, .inl (cI, 20, .inl fv)), (gy, .inl (cI, 3, .inl fa)), (ly, .inl (cI, 4, .inl fl)), (sy, .inl (cI, 8, .inl fs))] := hD
  have hl := lv_entry ([.ref mc, .int op, .int n]) (n := 8) (Nat.le_of_ble_eq_true rfl)
  rw [lg_entry_eq]
  generalize (lg_sl ([.ref mc, .int op, .int n]) ++ List.replicate (8 - (lg_sl ([.ref mc, .int op, .int n])).length) Slot.unset).toArray = ls at hl ⊢
  have hl : lv_has ls 8 [(0, .ref mc), (1, .int op), (2, .int n)] := hl
  refine lv_iload_n hx hb d_Machine_move_0 rfl (lv_at hl 1 rfl) ?_
  rcases (by omega : (Int32.toInt op < 0 ∨ 6 < Int32.toInt op) ∨ Int32.toInt op = 0 ∨ Int32.toInt op = 1 ∨ Int32.toInt op = 2 ∨ Int32.toInt op = 3 ∨ Int32.toInt op = 4 ∨ Int32.toInt op = 5 ∨ Int32.toInt op = 6) with h1 | h1 | h1 | h1 | h1 | h1 | h1 | h1
  · -- default
    refine lv_tableOut (tgt := 150) hx hb d_Machine_move_1 h1 (by decide) ?_
    refine lv_aload_n hx hb d_Machine_move_150 rfl (lv_at hl 0 rfl) ?_
    have hPc := hP.sub (ws' := [(mc, .inr (3, [.int res, .int stp, .int pcn, .ref ky, .ref vy, .ref gy, .ref ly, .ref sy, .int hgt, .int ap])), (ky, .inl (cI, 20, .inl fk)), (vy, .inl (cI, 20, .inl fv)), (gy, .inl (cI, 3, .inl fa)), (ly, .inl (cI, 4, .inl fl)), (sy, .inl (cI, 8, .inl fs))]) [0, 1, 2, 3, 4, 5] rfl
    have hDc := hD.sub (ws' := [(mc, .inr (3, [.int res, .int stp, .int pcn, .ref ky, .ref vy, .ref gy, .ref ly, .ref sy, .int hgt, .int ap])), (ky, .inl (cI, 20, .inl fk)), (vy, .inl (cI, 20, .inl fv)), (gy, .inl (cI, 3, .inl fa)), (ly, .inl (cI, 4, .inl fl)), (sy, .inl (cI, 8, .inl fs))]) [0, 1, 2, 3, 4, 5] (by decide) rfl
    have hFc := va_free (wc := [(mc, .inr (3, [.int res, .int stp, .int pcn, .ref ky, .ref vy, .ref gy, .ref ly, .ref sy, .int hgt, .int ap])), (ky, .inl (cI, 20, .inl fk)), (vy, .inl (cI, 20, .inl fv)), (gy, .inl (cI, 3, .inl fa)), (ly, .inl (cI, 4, .inl fl)), (sy, .inl (cI, 8, .inl fs))]) hD hS hA [0, 1, 2, 3, 4, 5] rfl
    refine va_calli (va_runV (As := []) (rest := []) ⟨hx, hb, hml, hown, hts⟩ (c_Machine_pop l D cI cZ tN tG s.heap.size mc ky vy gy ly sy res stp pcn fk fv fa fl fs hgt ap) (cwV 0 hts (gd4 k_270 k_272 k_7 k_21 k_273) rfl rfl rfl (by decide +kernel) ⟨Nat.le_of_ble_eq_true rfl, Nat.le_of_ble_eq_true rfl⟩) ⟨MZ_blind, va_recv (q0 := 0) (ci := 3) hE.1 hP rfl rfl, mz_pre hE hZ hS hPc hDc hFc⟩ rfl rfl hl.1 rfl (lv_room (Nat.le_of_ble_eq_true rfl)) d_Machine_move_151 ⟨Nat.zero_le _, Nat.zero_le _⟩) hS (fun q _ h => hFc q h) hFc (fun r u t H1 locs ht hvm hw hB hz1 hk1 hS => ?_)
    obtain ⟨hP1, hD1⟩ := hB
    rw [ht] at hP1
    subst hw
    obtain ⟨hP, hD⟩ := va_join (wr := []) (w1 := [(mc, .inr (3, [.int res, .int stp, .int pcn, .ref ky, .ref vy, .ref gy, .ref ly, .ref sy, .int (hgt - 1), .int ap])), (ky, .inl (cI, 20, .inl fk)), (vy, .inl (cI, 20, .inl fv)), (gy, .inl (cI, 3, .inl fa)), (ly, .inl (cI, 4, .inl fl)), (sy, .inl (cI, 8, .inl fs))]) hP hD [0, 1, 2, 3, 4, 5] [] rfl rfl (by decide) (by decide) hk1 hFc hP1 hD1
    generalize H1 = H at hP hS ⊢
    have hP : va_P D classes [(mc, .inr (3, [.int res, .int stp, .int pcn, .ref ky, .ref vy, .ref gy, .ref ly, .ref sy, .int (hgt - 1), .int ap])), (ky, .inl (cI, 20, .inl fk)), (vy, .inl (cI, 20, .inl fv)), (gy, .inl (cI, 3, .inl fa)), (ly, .inl (cI, 4, .inl fl)), (sy, .inl (cI, 8, .inl fs))] H := hP
    have hD : va_D A [(mc, .inr (3, [.int res, .int stp, .int pcn, .ref ky, .ref vy, .ref gy, .ref ly, .ref sy, .int (hgt - 1), .int ap])), (ky, .inl (cI, 20, .inl fk)), (vy, .inl (cI, 20, .inl fv)), (gy, .inl (cI, 3, .inl fa)), (ly, .inl (cI, 4, .inl fl)), (sy, .inl (cI, 8, .inl fs))] := hD
    refine lv_istore hx hb d_Machine_move_154 hl (by decide) rfl (fun ls hl => ?_)
    have hl : lv_has ls 8 [(6, .int (rd fs 8 (hgt - 1))), (0, .ref mc), (1, .int op), (2, .int n)] := hl
    refine lv_aload_n hx hb d_Machine_move_156 rfl (lv_at hl 1 rfl) ?_
    have hPc := hP.sub (ws' := [(mc, .inr (3, [.int res, .int stp, .int pcn, .ref ky, .ref vy, .ref gy, .ref ly, .ref sy, .int (hgt - 1), .int ap])), (ky, .inl (cI, 20, .inl fk)), (vy, .inl (cI, 20, .inl fv)), (gy, .inl (cI, 3, .inl fa)), (ly, .inl (cI, 4, .inl fl)), (sy, .inl (cI, 8, .inl fs))]) [0, 1, 2, 3, 4, 5] rfl
    have hDc := hD.sub (ws' := [(mc, .inr (3, [.int res, .int stp, .int pcn, .ref ky, .ref vy, .ref gy, .ref ly, .ref sy, .int (hgt - 1), .int ap])), (ky, .inl (cI, 20, .inl fk)), (vy, .inl (cI, 20, .inl fv)), (gy, .inl (cI, 3, .inl fa)), (ly, .inl (cI, 4, .inl fl)), (sy, .inl (cI, 8, .inl fs))]) [0, 1, 2, 3, 4, 5] (by decide) rfl
    have hFc := va_free (wc := [(mc, .inr (3, [.int res, .int stp, .int pcn, .ref ky, .ref vy, .ref gy, .ref ly, .ref sy, .int (hgt - 1), .int ap])), (ky, .inl (cI, 20, .inl fk)), (vy, .inl (cI, 20, .inl fv)), (gy, .inl (cI, 3, .inl fa)), (ly, .inl (cI, 4, .inl fl)), (sy, .inl (cI, 8, .inl fs))]) hD hS hA [0, 1, 2, 3, 4, 5] rfl
    refine va_calli (va_runV (As := []) (rest := []) ⟨hx, hb, hml, hown, hts⟩ (c_Machine_pop l D cI cZ tN tG H.size mc ky vy gy ly sy res stp pcn fk fv fa fl fs (hgt - 1) ap) (cwV 0 hts (gd4 k_270 k_272 k_7 k_21 k_273) rfl rfl rfl (by decide +kernel) ⟨Nat.le_of_ble_eq_true rfl, Nat.le_of_ble_eq_true rfl⟩) ⟨MZ_blind, va_recv (q0 := 0) (ci := 3) hE.1 hP rfl rfl, mz_pre hE hZ hS hPc hDc hFc⟩ rfl rfl hl.1 rfl (lv_room (Nat.le_of_ble_eq_true rfl)) d_Machine_move_157 ⟨Nat.zero_le _, Nat.zero_le _⟩) hS (fun q _ h => hFc q h) hFc (fun r u t H1 locs ht hvm hw hB hz1 hk1 hS => ?_)
    obtain ⟨hP1, hD1⟩ := hB
    rw [ht] at hP1
    subst hw
    obtain ⟨hP, hD⟩ := va_join (wr := []) (w1 := [(mc, .inr (3, [.int res, .int stp, .int pcn, .ref ky, .ref vy, .ref gy, .ref ly, .ref sy, .int ((hgt - 1) - 1), .int ap])), (ky, .inl (cI, 20, .inl fk)), (vy, .inl (cI, 20, .inl fv)), (gy, .inl (cI, 3, .inl fa)), (ly, .inl (cI, 4, .inl fl)), (sy, .inl (cI, 8, .inl fs))]) hP hD [0, 1, 2, 3, 4, 5] [] rfl rfl (by decide) (by decide) hk1 hFc hP1 hD1
    generalize H1 = H at hP hS ⊢
    have hP : va_P D classes [(mc, .inr (3, [.int res, .int stp, .int pcn, .ref ky, .ref vy, .ref gy, .ref ly, .ref sy, .int ((hgt - 1) - 1), .int ap])), (ky, .inl (cI, 20, .inl fk)), (vy, .inl (cI, 20, .inl fv)), (gy, .inl (cI, 3, .inl fa)), (ly, .inl (cI, 4, .inl fl)), (sy, .inl (cI, 8, .inl fs))] H := hP
    have hD : va_D A [(mc, .inr (3, [.int res, .int stp, .int pcn, .ref ky, .ref vy, .ref gy, .ref ly, .ref sy, .int ((hgt - 1) - 1), .int ap])), (ky, .inl (cI, 20, .inl fk)), (vy, .inl (cI, 20, .inl fv)), (gy, .inl (cI, 3, .inl fa)), (ly, .inl (cI, 4, .inl fl)), (sy, .inl (cI, 8, .inl fs))] := hD
    refine lv_istore hx hb d_Machine_move_160 hl (by decide) rfl (fun ls hl => ?_)
    have hl : lv_has ls 8 [(7, .int (rd fs 8 ((hgt - 1) - 1))), (6, .int (rd fs 8 (hgt - 1))), (0, .ref mc), (1, .int op), (2, .int n)] := hl
    refine lv_aload_n hx hb d_Machine_move_162 rfl (lv_at hl 2 rfl) ?_
    refine lv_iload_n hx hb d_Machine_move_163 rfl (lv_at hl 3 rfl) ?_
    refine lv_iload hx hb d_Machine_move_164 (lv_at hl 0 rfl) ?_
    refine lv_iload hx hb d_Machine_move_166 (lv_at hl 1 rfl) ?_
    refine vp_callSi (va_Run.run (va_runS (As := [.int op, .int (rd fs 8 ((hgt - 1) - 1)), .int (rd fs 8 (hgt - 1))]) (rest := [.ref mc]) ⟨hx, hb, hml, hown, hts⟩ (c_Machine_combine l op (rd fs 8 ((hgt - 1) - 1)) (rd fs 8 (hgt - 1))) (cwS 3 hts (gd3 k_287 k_288 k_21 k_289) rfl rfl rfl (by decide +kernel) ⟨Nat.le_of_ble_eq_true rfl, Nat.le_of_ble_eq_true rfl⟩) ⟨fun _ _ _ _ q => q, fun _ _ _ => ⟨rfl, trivial⟩⟩ rfl rfl hl.1 rfl (lv_room (Nat.le_of_ble_eq_true rfl)) d_Machine_move_168 ⟨Nat.zero_le _, Nat.zero_le _⟩)) (fun r hq => ?_)
    subst hq
    have hPc := hP.sub (ws' := [(mc, .inr (3, [.int res, .int stp, .int pcn, .ref ky, .ref vy, .ref gy, .ref ly, .ref sy, .int ((hgt - 1) - 1), .int ap])), (ky, .inl (cI, 20, .inl fk)), (vy, .inl (cI, 20, .inl fv)), (gy, .inl (cI, 3, .inl fa)), (ly, .inl (cI, 4, .inl fl)), (sy, .inl (cI, 8, .inl fs))]) [0, 1, 2, 3, 4, 5] rfl
    have hDc := hD.sub (ws' := [(mc, .inr (3, [.int res, .int stp, .int pcn, .ref ky, .ref vy, .ref gy, .ref ly, .ref sy, .int ((hgt - 1) - 1), .int ap])), (ky, .inl (cI, 20, .inl fk)), (vy, .inl (cI, 20, .inl fv)), (gy, .inl (cI, 3, .inl fa)), (ly, .inl (cI, 4, .inl fl)), (sy, .inl (cI, 8, .inl fs))]) [0, 1, 2, 3, 4, 5] (by decide) rfl
    have hFc := va_free (wc := [(mc, .inr (3, [.int res, .int stp, .int pcn, .ref ky, .ref vy, .ref gy, .ref ly, .ref sy, .int ((hgt - 1) - 1), .int ap])), (ky, .inl (cI, 20, .inl fk)), (vy, .inl (cI, 20, .inl fv)), (gy, .inl (cI, 3, .inl fa)), (ly, .inl (cI, 4, .inl fl)), (sy, .inl (cI, 8, .inl fs))]) hD hS hA [0, 1, 2, 3, 4, 5] rfl
    refine va_callv (va_runV (As := [.int (m_comb op (rd fs 8 ((hgt - 1) - 1)) (rd fs 8 (hgt - 1)))]) (rest := []) ⟨hx, hb, hml, hown, hts⟩ (c_Machine_push l D cI cZ tN tG H.size mc ky vy gy ly sy res stp pcn fk fv fa fl fs ((hgt - 1) - 1) ap (m_comb op (rd fs 8 ((hgt - 1) - 1)) (rd fs 8 (hgt - 1)))) (cwV 1 hts (gd4 k_283 k_285 k_10 k_21 k_286) rfl rfl rfl (by decide +kernel) ⟨Nat.le_of_ble_eq_true rfl, Nat.le_of_ble_eq_true rfl⟩) ⟨MZ_blind, va_recv (q0 := 0) (ci := 3) hE.1 hP rfl rfl, mz_pre hE hZ hS hPc hDc hFc⟩ rfl rfl hl.1 rfl (lv_room (Nat.le_of_ble_eq_true rfl)) d_Machine_move_171 ⟨Nat.zero_le _, Nat.zero_le _⟩) hS (fun q _ h => hFc q h) hFc (fun u t H1 locs ht hvm hw hB hz1 hk1 hS => ?_)
    obtain ⟨hP1, hD1⟩ := hB
    rw [ht] at hP1
    obtain ⟨hP, hD⟩ := va_join (wr := []) (w1 := [(mc, .inr (3, [.int res, .int stp, .int pcn, .ref ky, .ref vy, .ref gy, .ref ly, .ref sy, .int (((hgt - 1) - 1) + 1), .int ap])), (ky, .inl (cI, 20, .inl fk)), (vy, .inl (cI, 20, .inl fv)), (gy, .inl (cI, 3, .inl fa)), (ly, .inl (cI, 4, .inl fl)), (sy, .inl (cI, 8, .inl (wr fs 8 ((hgt - 1) - 1) (m_comb op (rd fs 8 ((hgt - 1) - 1)) (rd fs 8 (hgt - 1))))))]) hP hD [0, 1, 2, 3, 4, 5] [] rfl rfl (by decide) (by decide) hk1 hFc hP1 hD1
    generalize H1 = H at hP hS ⊢
    have hP : va_P D classes [(mc, .inr (3, [.int res, .int stp, .int pcn, .ref ky, .ref vy, .ref gy, .ref ly, .ref sy, .int (((hgt - 1) - 1) + 1), .int ap])), (ky, .inl (cI, 20, .inl fk)), (vy, .inl (cI, 20, .inl fv)), (gy, .inl (cI, 3, .inl fa)), (ly, .inl (cI, 4, .inl fl)), (sy, .inl (cI, 8, .inl (wr fs 8 ((hgt - 1) - 1) (m_comb op (rd fs 8 ((hgt - 1) - 1)) (rd fs 8 (hgt - 1))))))] H := hP
    have hD : va_D A [(mc, .inr (3, [.int res, .int stp, .int pcn, .ref ky, .ref vy, .ref gy, .ref ly, .ref sy, .int (((hgt - 1) - 1) + 1), .int ap])), (ky, .inl (cI, 20, .inl fk)), (vy, .inl (cI, 20, .inl fv)), (gy, .inl (cI, 3, .inl fa)), (ly, .inl (cI, 4, .inl fl)), (sy, .inl (cI, 8, .inl (wr fs 8 ((hgt - 1) - 1) (m_comb op (rd fs 8 ((hgt - 1) - 1)) (rd fs 8 (hgt - 1))))))] := hD
    refine W.vret hx hb hr (fun t ht hW => ⟨⟨(res, stp, pcn, fk, fv, fa, fl, (wr fs 8 ((hgt - 1) - 1) (m_comb op (rd fs 8 ((hgt - 1) - 1)) (rd fs 8 (hgt - 1)))), (((hgt - 1) - 1) + 1), ap), rfl, ?_, ?_⟩, hS.F ht⟩) hS.2.2 d_Machine_move_174
    · (have g0 := sw_ne (k := 0) h1 (by decide); have g1 := sw_ne (k := 1) h1 (by decide); have g2 := sw_ne (k := 2) h1 (by decide); have g3 := sw_ne (k := 3) h1 (by decide); have g4 := sw_ne (k := 4) h1 (by decide); have g5 := sw_ne (k := 5) h1 (by decide); have g6 := sw_ne (k := 6) h1 (by decide); simp only [m_move, g0, g1, g2, g3, g4, g5, g6, if_true, if_false, eq_self, not_true_eq_false, not_false_eq_true, ne_eq])
    · exact ⟨by rw [ht]; exact hP.sub [0, 1, 2, 3, 4, 5] rfl, hD.sub [0, 1, 2, 3, 4, 5] (by decide) rfl⟩
  · -- case 0
    have h1 : op = 0 := Int32.toInt_inj.mp (by rw [h1]; decide)
    subst h1
    refine lv_tableIn (tgt := 44) (off := 43) hx hb d_Machine_move_1 (by decide) (by decide) (by decide +kernel) (by decide) ?_
    refine lv_aload_n hx hb d_Machine_move_44 rfl (lv_at hl 0 rfl) ?_
    refine lv_iload_n hx hb d_Machine_move_45 rfl (lv_at hl 2 rfl) ?_
    have hPc := hP.sub (ws' := [(mc, .inr (3, [.int res, .int stp, .int pcn, .ref ky, .ref vy, .ref gy, .ref ly, .ref sy, .int hgt, .int ap])), (ky, .inl (cI, 20, .inl fk)), (vy, .inl (cI, 20, .inl fv)), (gy, .inl (cI, 3, .inl fa)), (ly, .inl (cI, 4, .inl fl)), (sy, .inl (cI, 8, .inl fs))]) [0, 1, 2, 3, 4, 5] rfl
    have hDc := hD.sub (ws' := [(mc, .inr (3, [.int res, .int stp, .int pcn, .ref ky, .ref vy, .ref gy, .ref ly, .ref sy, .int hgt, .int ap])), (ky, .inl (cI, 20, .inl fk)), (vy, .inl (cI, 20, .inl fv)), (gy, .inl (cI, 3, .inl fa)), (ly, .inl (cI, 4, .inl fl)), (sy, .inl (cI, 8, .inl fs))]) [0, 1, 2, 3, 4, 5] (by decide) rfl
    have hFc := va_free (wc := [(mc, .inr (3, [.int res, .int stp, .int pcn, .ref ky, .ref vy, .ref gy, .ref ly, .ref sy, .int hgt, .int ap])), (ky, .inl (cI, 20, .inl fk)), (vy, .inl (cI, 20, .inl fv)), (gy, .inl (cI, 3, .inl fa)), (ly, .inl (cI, 4, .inl fl)), (sy, .inl (cI, 8, .inl fs))]) hD hS hA [0, 1, 2, 3, 4, 5] rfl
    refine va_callv (va_runV (As := [.int n]) (rest := []) ⟨hx, hb, hml, hown, hts⟩ (c_Machine_push l D cI cZ tN tG s.heap.size mc ky vy gy ly sy res stp pcn fk fv fa fl fs hgt ap n) (cwV 1 hts (gd4 k_283 k_285 k_10 k_21 k_286) rfl rfl rfl (by decide +kernel) ⟨Nat.le_of_ble_eq_true rfl, Nat.le_of_ble_eq_true rfl⟩) ⟨MZ_blind, va_recv (q0 := 0) (ci := 3) hE.1 hP rfl rfl, mz_pre hE hZ hS hPc hDc hFc⟩ rfl rfl hl.1 rfl (lv_room (Nat.le_of_ble_eq_true rfl)) d_Machine_move_46 ⟨Nat.zero_le _, Nat.zero_le _⟩) hS (fun q _ h => hFc q h) hFc (fun u t H1 locs ht hvm hw hB hz1 hk1 hS => ?_)
    obtain ⟨hP1, hD1⟩ := hB
    rw [ht] at hP1
    obtain ⟨hP, hD⟩ := va_join (wr := []) (w1 := [(mc, .inr (3, [.int res, .int stp, .int pcn, .ref ky, .ref vy, .ref gy, .ref ly, .ref sy, .int (hgt + 1), .int ap])), (ky, .inl (cI, 20, .inl fk)), (vy, .inl (cI, 20, .inl fv)), (gy, .inl (cI, 3, .inl fa)), (ly, .inl (cI, 4, .inl fl)), (sy, .inl (cI, 8, .inl (wr fs 8 hgt n)))]) hP hD [0, 1, 2, 3, 4, 5] [] rfl rfl (by decide) (by decide) hk1 hFc hP1 hD1
    generalize H1 = H at hP hS ⊢
    have hP : va_P D classes [(mc, .inr (3, [.int res, .int stp, .int pcn, .ref ky, .ref vy, .ref gy, .ref ly, .ref sy, .int (hgt + 1), .int ap])), (ky, .inl (cI, 20, .inl fk)), (vy, .inl (cI, 20, .inl fv)), (gy, .inl (cI, 3, .inl fa)), (ly, .inl (cI, 4, .inl fl)), (sy, .inl (cI, 8, .inl (wr fs 8 hgt n)))] H := hP
    have hD : va_D A [(mc, .inr (3, [.int res, .int stp, .int pcn, .ref ky, .ref vy, .ref gy, .ref ly, .ref sy, .int (hgt + 1), .int ap])), (ky, .inl (cI, 20, .inl fk)), (vy, .inl (cI, 20, .inl fv)), (gy, .inl (cI, 3, .inl fa)), (ly, .inl (cI, 4, .inl fl)), (sy, .inl (cI, 8, .inl (wr fs 8 hgt n)))] := hD
    refine lv_goto (tgt := 174) hx hb d_Machine_move_49 (by decide) ?_
    refine W.vret hx hb hr (fun t ht hW => ⟨⟨(res, stp, pcn, fk, fv, fa, fl, (wr fs 8 hgt n), (hgt + 1), ap), rfl, ?_, ?_⟩, hS.F ht⟩) hS.2.2 d_Machine_move_174
    · rfl
    · exact ⟨by rw [ht]; exact hP.sub [0, 1, 2, 3, 4, 5] rfl, hD.sub [0, 1, 2, 3, 4, 5] (by decide) rfl⟩
  · -- case 1
    have h1 : op = 1 := Int32.toInt_inj.mp (by rw [h1]; decide)
    subst h1
    refine lv_tableIn (tgt := 52) (off := 51) hx hb d_Machine_move_1 (by decide) (by decide) (by decide +kernel) (by decide) ?_
    refine lv_aload_n hx hb d_Machine_move_52 rfl (lv_at hl 0 rfl) ?_
    refine lv_aload_n hx hb d_Machine_move_53 rfl (lv_at hl 0 rfl) ?_
    refine va_get (D := D) (ci := 3) (v := .ref gy) (C := R_Machine) (T := F_Machine) (N := 10) hx hb hts in_Machine hown hE.1 hP 0 rfl rfl 5 (by decide) (hts _ k_93) (fun _ h9 => h9) rfl d_Machine_move_54 ?_
    refine lv_iload_n hx hb d_Machine_move_57 rfl (lv_at hl 2 rfl) ?_
    refine vp_callSi (va_Run.run (va_runSN (As := [.ref gy, .int n]) (rest := [.ref mc]) ⟨hx, hb, hml, hown, hts⟩ (c_SJ_read l gy 3 fa n (by decide)) ⟨va_cnB 2 hts (gd k_177) rfl rfl rfl (hE.2 _ nm_8) (hts _ k_18) (by decide +kernel) ⟨Nat.le_of_ble_eq_true rfl, Nat.le_of_ble_eq_true rfl⟩, hts _ k_176, trivial⟩ (rp_pre hE.1 hP 3 0 rfl rfl) rfl rfl hl.1 rfl (lv_room (Nat.le_of_ble_eq_true rfl)) d_Machine_move_58 ⟨Nat.zero_le _, Nat.zero_le _⟩)) (fun r hq => ?_)
    subst hq
    have hPc := hP.sub (ws' := [(mc, .inr (3, [.int res, .int stp, .int pcn, .ref ky, .ref vy, .ref gy, .ref ly, .ref sy, .int hgt, .int ap])), (ky, .inl (cI, 20, .inl fk)), (vy, .inl (cI, 20, .inl fv)), (gy, .inl (cI, 3, .inl fa)), (ly, .inl (cI, 4, .inl fl)), (sy, .inl (cI, 8, .inl fs))]) [0, 1, 2, 3, 4, 5] rfl
    have hDc := hD.sub (ws' := [(mc, .inr (3, [.int res, .int stp, .int pcn, .ref ky, .ref vy, .ref gy, .ref ly, .ref sy, .int hgt, .int ap])), (ky, .inl (cI, 20, .inl fk)), (vy, .inl (cI, 20, .inl fv)), (gy, .inl (cI, 3, .inl fa)), (ly, .inl (cI, 4, .inl fl)), (sy, .inl (cI, 8, .inl fs))]) [0, 1, 2, 3, 4, 5] (by decide) rfl
    have hFc := va_free (wc := [(mc, .inr (3, [.int res, .int stp, .int pcn, .ref ky, .ref vy, .ref gy, .ref ly, .ref sy, .int hgt, .int ap])), (ky, .inl (cI, 20, .inl fk)), (vy, .inl (cI, 20, .inl fv)), (gy, .inl (cI, 3, .inl fa)), (ly, .inl (cI, 4, .inl fl)), (sy, .inl (cI, 8, .inl fs))]) hD hS hA [0, 1, 2, 3, 4, 5] rfl
    refine va_callv (va_runV (As := [.int (rd fa 3 n)]) (rest := []) ⟨hx, hb, hml, hown, hts⟩ (c_Machine_push l D cI cZ tN tG s.heap.size mc ky vy gy ly sy res stp pcn fk fv fa fl fs hgt ap (rd fa 3 n)) (cwV 1 hts (gd4 k_283 k_285 k_10 k_21 k_286) rfl rfl rfl (by decide +kernel) ⟨Nat.le_of_ble_eq_true rfl, Nat.le_of_ble_eq_true rfl⟩) ⟨MZ_blind, va_recv (q0 := 0) (ci := 3) hE.1 hP rfl rfl, mz_pre hE hZ hS hPc hDc hFc⟩ rfl rfl hl.1 rfl (lv_room (Nat.le_of_ble_eq_true rfl)) d_Machine_move_61 ⟨Nat.zero_le _, Nat.zero_le _⟩) hS (fun q _ h => hFc q h) hFc (fun u t H1 locs ht hvm hw hB hz1 hk1 hS => ?_)
    obtain ⟨hP1, hD1⟩ := hB
    rw [ht] at hP1
    obtain ⟨hP, hD⟩ := va_join (wr := []) (w1 := [(mc, .inr (3, [.int res, .int stp, .int pcn, .ref ky, .ref vy, .ref gy, .ref ly, .ref sy, .int (hgt + 1), .int ap])), (ky, .inl (cI, 20, .inl fk)), (vy, .inl (cI, 20, .inl fv)), (gy, .inl (cI, 3, .inl fa)), (ly, .inl (cI, 4, .inl fl)), (sy, .inl (cI, 8, .inl (wr fs 8 hgt (rd fa 3 n))))]) hP hD [0, 1, 2, 3, 4, 5] [] rfl rfl (by decide) (by decide) hk1 hFc hP1 hD1
    generalize H1 = H at hP hS ⊢
    have hP : va_P D classes [(mc, .inr (3, [.int res, .int stp, .int pcn, .ref ky, .ref vy, .ref gy, .ref ly, .ref sy, .int (hgt + 1), .int ap])), (ky, .inl (cI, 20, .inl fk)), (vy, .inl (cI, 20, .inl fv)), (gy, .inl (cI, 3, .inl fa)), (ly, .inl (cI, 4, .inl fl)), (sy, .inl (cI, 8, .inl (wr fs 8 hgt (rd fa 3 n))))] H := hP
    have hD : va_D A [(mc, .inr (3, [.int res, .int stp, .int pcn, .ref ky, .ref vy, .ref gy, .ref ly, .ref sy, .int (hgt + 1), .int ap])), (ky, .inl (cI, 20, .inl fk)), (vy, .inl (cI, 20, .inl fv)), (gy, .inl (cI, 3, .inl fa)), (ly, .inl (cI, 4, .inl fl)), (sy, .inl (cI, 8, .inl (wr fs 8 hgt (rd fa 3 n))))] := hD
    refine lv_goto (tgt := 174) hx hb d_Machine_move_64 (by decide) ?_
    refine W.vret hx hb hr (fun t ht hW => ⟨⟨(res, stp, pcn, fk, fv, fa, fl, (wr fs 8 hgt (rd fa 3 n)), (hgt + 1), ap), rfl, ?_, ?_⟩, hS.F ht⟩) hS.2.2 d_Machine_move_174
    · rfl
    · exact ⟨by rw [ht]; exact hP.sub [0, 1, 2, 3, 4, 5] rfl, hD.sub [0, 1, 2, 3, 4, 5] (by decide) rfl⟩
  · -- case 2
    have h1 : op = 2 := Int32.toInt_inj.mp (by rw [h1]; decide)
    subst h1
    refine lv_tableIn (tgt := 67) (off := 66) hx hb d_Machine_move_1 (by decide) (by decide) (by decide +kernel) (by decide) ?_
    refine lv_aload_n hx hb d_Machine_move_67 rfl (lv_at hl 0 rfl) ?_
    refine lv_aload_n hx hb d_Machine_move_68 rfl (lv_at hl 0 rfl) ?_
    refine va_get (D := D) (ci := 3) (v := .ref ly) (C := R_Machine) (T := F_Machine) (N := 10) hx hb hts in_Machine hown hE.1 hP 0 rfl rfl 6 (by decide) (hts _ k_94) (fun _ h9 => h9) rfl d_Machine_move_69 ?_
    refine lv_iload_n hx hb d_Machine_move_72 rfl (lv_at hl 2 rfl) ?_
    refine vp_callSi (va_Run.run (va_runSN (As := [.ref ly, .int n]) (rest := [.ref mc]) ⟨hx, hb, hml, hown, hts⟩ (c_SJ_read l ly 4 fl n (by decide)) ⟨va_cnB 2 hts (gd k_177) rfl rfl rfl (hE.2 _ nm_8) (hts _ k_18) (by decide +kernel) ⟨Nat.le_of_ble_eq_true rfl, Nat.le_of_ble_eq_true rfl⟩, hts _ k_176, trivial⟩ (rp_pre hE.1 hP 4 0 rfl rfl) rfl rfl hl.1 rfl (lv_room (Nat.le_of_ble_eq_true rfl)) d_Machine_move_73 ⟨Nat.zero_le _, Nat.zero_le _⟩)) (fun r hq => ?_)
    subst hq
    have hPc := hP.sub (ws' := [(mc, .inr (3, [.int res, .int stp, .int pcn, .ref ky, .ref vy, .ref gy, .ref ly, .ref sy, .int hgt, .int ap])), (ky, .inl (cI, 20, .inl fk)), (vy, .inl (cI, 20, .inl fv)), (gy, .inl (cI, 3, .inl fa)), (ly, .inl (cI, 4, .inl fl)), (sy, .inl (cI, 8, .inl fs))]) [0, 1, 2, 3, 4, 5] rfl
    have hDc := hD.sub (ws' := [(mc, .inr (3, [.int res, .int stp, .int pcn, .ref ky, .ref vy, .ref gy, .ref ly, .ref sy, .int hgt, .int ap])), (ky, .inl (cI, 20, .inl fk)), (vy, .inl (cI, 20, .inl fv)), (gy, .inl (cI, 3, .inl fa)), (ly, .inl (cI, 4, .inl fl)), (sy, .inl (cI, 8, .inl fs))]) [0, 1, 2, 3, 4, 5] (by decide) rfl
    have hFc := va_free (wc := [(mc, .inr (3, [.int res, .int stp, .int pcn, .ref ky, .ref vy, .ref gy, .ref ly, .ref sy, .int hgt, .int ap])), (ky, .inl (cI, 20, .inl fk)), (vy, .inl (cI, 20, .inl fv)), (gy, .inl (cI, 3, .inl fa)), (ly, .inl (cI, 4, .inl fl)), (sy, .inl (cI, 8, .inl fs))]) hD hS hA [0, 1, 2, 3, 4, 5] rfl
    refine va_callv (va_runV (As := [.int (rd fl 4 n)]) (rest := []) ⟨hx, hb, hml, hown, hts⟩ (c_Machine_push l D cI cZ tN tG s.heap.size mc ky vy gy ly sy res stp pcn fk fv fa fl fs hgt ap (rd fl 4 n)) (cwV 1 hts (gd4 k_283 k_285 k_10 k_21 k_286) rfl rfl rfl (by decide +kernel) ⟨Nat.le_of_ble_eq_true rfl, Nat.le_of_ble_eq_true rfl⟩) ⟨MZ_blind, va_recv (q0 := 0) (ci := 3) hE.1 hP rfl rfl, mz_pre hE hZ hS hPc hDc hFc⟩ rfl rfl hl.1 rfl (lv_room (Nat.le_of_ble_eq_true rfl)) d_Machine_move_76 ⟨Nat.zero_le _, Nat.zero_le _⟩) hS (fun q _ h => hFc q h) hFc (fun u t H1 locs ht hvm hw hB hz1 hk1 hS => ?_)
    obtain ⟨hP1, hD1⟩ := hB
    rw [ht] at hP1
    obtain ⟨hP, hD⟩ := va_join (wr := []) (w1 := [(mc, .inr (3, [.int res, .int stp, .int pcn, .ref ky, .ref vy, .ref gy, .ref ly, .ref sy, .int (hgt + 1), .int ap])), (ky, .inl (cI, 20, .inl fk)), (vy, .inl (cI, 20, .inl fv)), (gy, .inl (cI, 3, .inl fa)), (ly, .inl (cI, 4, .inl fl)), (sy, .inl (cI, 8, .inl (wr fs 8 hgt (rd fl 4 n))))]) hP hD [0, 1, 2, 3, 4, 5] [] rfl rfl (by decide) (by decide) hk1 hFc hP1 hD1
    generalize H1 = H at hP hS ⊢
    have hP : va_P D classes [(mc, .inr (3, [.int res, .int stp, .int pcn, .ref ky, .ref vy, .ref gy, .ref ly, .ref sy, .int (hgt + 1), .int ap])), (ky, .inl (cI, 20, .inl fk)), (vy, .inl (cI, 20, .inl fv)), (gy, .inl (cI, 3, .inl fa)), (ly, .inl (cI, 4, .inl fl)), (sy, .inl (cI, 8, .inl (wr fs 8 hgt (rd fl 4 n))))] H := hP
    have hD : va_D A [(mc, .inr (3, [.int res, .int stp, .int pcn, .ref ky, .ref vy, .ref gy, .ref ly, .ref sy, .int (hgt + 1), .int ap])), (ky, .inl (cI, 20, .inl fk)), (vy, .inl (cI, 20, .inl fv)), (gy, .inl (cI, 3, .inl fa)), (ly, .inl (cI, 4, .inl fl)), (sy, .inl (cI, 8, .inl (wr fs 8 hgt (rd fl 4 n))))] := hD
    refine lv_goto (tgt := 174) hx hb d_Machine_move_79 (by decide) ?_
    refine W.vret hx hb hr (fun t ht hW => ⟨⟨(res, stp, pcn, fk, fv, fa, fl, (wr fs 8 hgt (rd fl 4 n)), (hgt + 1), ap), rfl, ?_, ?_⟩, hS.F ht⟩) hS.2.2 d_Machine_move_174
    · rfl
    · exact ⟨by rw [ht]; exact hP.sub [0, 1, 2, 3, 4, 5] rfl, hD.sub [0, 1, 2, 3, 4, 5] (by decide) rfl⟩
  · -- case 3
    have h1 : op = 3 := Int32.toInt_inj.mp (by rw [h1]; decide)
    subst h1
    refine lv_tableIn (tgt := 82) (off := 81) hx hb d_Machine_move_1 (by decide) (by decide) (by decide +kernel) (by decide) ?_
    refine lv_aload_n hx hb d_Machine_move_82 rfl (lv_at hl 0 rfl) ?_
    refine va_get (D := D) (ci := 3) (v := .ref ly) (C := R_Machine) (T := F_Machine) (N := 10) hx hb hts in_Machine hown hE.1 hP 0 rfl rfl 6 (by decide) (hts _ k_94) (fun _ h9 => h9) rfl d_Machine_move_83 ?_
    refine lv_iload_n hx hb d_Machine_move_86 rfl (lv_at hl 2 rfl) ?_
    refine lv_aload_n hx hb d_Machine_move_87 rfl (lv_at hl 0 rfl) ?_
    have hPc := hP.sub (ws' := [(mc, .inr (3, [.int res, .int stp, .int pcn, .ref ky, .ref vy, .ref gy, .ref ly, .ref sy, .int hgt, .int ap])), (ky, .inl (cI, 20, .inl fk)), (vy, .inl (cI, 20, .inl fv)), (gy, .inl (cI, 3, .inl fa)), (ly, .inl (cI, 4, .inl fl)), (sy, .inl (cI, 8, .inl fs))]) [0, 1, 2, 3, 4, 5] rfl
    have hDc := hD.sub (ws' := [(mc, .inr (3, [.int res, .int stp, .int pcn, .ref ky, .ref vy, .ref gy, .ref ly, .ref sy, .int hgt, .int ap])), (ky, .inl (cI, 20, .inl fk)), (vy, .inl (cI, 20, .inl fv)), (gy, .inl (cI, 3, .inl fa)), (ly, .inl (cI, 4, .inl fl)), (sy, .inl (cI, 8, .inl fs))]) [0, 1, 2, 3, 4, 5] (by decide) rfl
    have hFc := va_free (wc := [(mc, .inr (3, [.int res, .int stp, .int pcn, .ref ky, .ref vy, .ref gy, .ref ly, .ref sy, .int hgt, .int ap])), (ky, .inl (cI, 20, .inl fk)), (vy, .inl (cI, 20, .inl fv)), (gy, .inl (cI, 3, .inl fa)), (ly, .inl (cI, 4, .inl fl)), (sy, .inl (cI, 8, .inl fs))]) hD hS hA [0, 1, 2, 3, 4, 5] rfl
    refine va_calli (va_runV (As := []) (rest := [.int n, .ref ly]) ⟨hx, hb, hml, hown, hts⟩ (c_Machine_pop l D cI cZ tN tG s.heap.size mc ky vy gy ly sy res stp pcn fk fv fa fl fs hgt ap) (cwV 0 hts (gd4 k_270 k_272 k_7 k_21 k_273) rfl rfl rfl (by decide +kernel) ⟨Nat.le_of_ble_eq_true rfl, Nat.le_of_ble_eq_true rfl⟩) ⟨MZ_blind, va_recv (q0 := 0) (ci := 3) hE.1 hP rfl rfl, mz_pre hE hZ hS hPc hDc hFc⟩ rfl rfl hl.1 rfl (lv_room (Nat.le_of_ble_eq_true rfl)) d_Machine_move_88 ⟨Nat.zero_le _, Nat.zero_le _⟩) hS (fun q _ h => hFc q h) hFc (fun r u t H1 locs ht hvm hw hB hz1 hk1 hS => ?_)
    obtain ⟨hP1, hD1⟩ := hB
    rw [ht] at hP1
    subst hw
    obtain ⟨hP, hD⟩ := va_join (wr := []) (w1 := [(mc, .inr (3, [.int res, .int stp, .int pcn, .ref ky, .ref vy, .ref gy, .ref ly, .ref sy, .int (hgt - 1), .int ap])), (ky, .inl (cI, 20, .inl fk)), (vy, .inl (cI, 20, .inl fv)), (gy, .inl (cI, 3, .inl fa)), (ly, .inl (cI, 4, .inl fl)), (sy, .inl (cI, 8, .inl fs))]) hP hD [0, 1, 2, 3, 4, 5] [] rfl rfl (by decide) (by decide) hk1 hFc hP1 hD1
    generalize H1 = H at hP hS ⊢
    have hP : va_P D classes [(mc, .inr (3, [.int res, .int stp, .int pcn, .ref ky, .ref vy, .ref gy, .ref ly, .ref sy, .int (hgt - 1), .int ap])), (ky, .inl (cI, 20, .inl fk)), (vy, .inl (cI, 20, .inl fv)), (gy, .inl (cI, 3, .inl fa)), (ly, .inl (cI, 4, .inl fl)), (sy, .inl (cI, 8, .inl fs))] H := hP
    have hD : va_D A [(mc, .inr (3, [.int res, .int stp, .int pcn, .ref ky, .ref vy, .ref gy, .ref ly, .ref sy, .int (hgt - 1), .int ap])), (ky, .inl (cI, 20, .inl fk)), (vy, .inl (cI, 20, .inl fv)), (gy, .inl (cI, 3, .inl fa)), (ly, .inl (cI, 4, .inl fl)), (sy, .inl (cI, 8, .inl fs))] := hD
    have hPc := hP.sub (ws' := [(ly, .inl (cI, 4, .inl fl))]) [4] rfl
    have hDc := hD.sub (ws' := [(ly, .inl (cI, 4, .inl fl))]) [4] (by decide) rfl
    have hFc := va_free (wc := [(ly, .inl (cI, 4, .inl fl))]) hD hS hA [4] rfl
    refine va_callv (va_runSN (As := [.ref ly, .int n, .int (rd fs 8 (hgt - 1))]) (rest := []) ⟨hx, hb, hml, hown, hts⟩ (c_SJ_write l D cI cZ tN tG H.size ly 4 fl n (rd fs 8 (hgt - 1)) (by decide)) ⟨va_cnB 3 hts (gd k_139) rfl rfl rfl (hE.2 _ nm_7) (hts _ k_18) (by decide +kernel) ⟨Nat.le_of_ble_eq_true rfl, Nat.le_of_ble_eq_true rfl⟩, hts _ k_138, trivial⟩ ⟨MZ_blind, mz_pre hE hZ hS hPc hDc hFc⟩ rfl rfl hl.1 rfl (lv_room (Nat.le_of_ble_eq_true rfl)) d_Machine_move_91 ⟨Nat.zero_le _, Nat.zero_le _⟩) hS (fun q _ h => hFc q h) hFc (fun u t H1 locs ht hvm hw hB hz1 hk1 hS => ?_)
    obtain ⟨hP1, hD1⟩ := hB
    rw [ht] at hP1
    subst hw
    obtain ⟨hP, hD⟩ := va_join (wr := [(mc, .inr (3, [.int res, .int stp, .int pcn, .ref ky, .ref vy, .ref gy, .ref ly, .ref sy, .int (hgt - 1), .int ap])), (ky, .inl (cI, 20, .inl fk)), (vy, .inl (cI, 20, .inl fv)), (gy, .inl (cI, 3, .inl fa)), (sy, .inl (cI, 8, .inl fs))]) (w1 := [(ly, .inl (cI, 4, .inl (wr fl 4 n (rd fs 8 (hgt - 1)))))]) hP hD [4] [0, 1, 2, 3, 5] rfl rfl (by decide) (by decide) hk1 hFc hP1 hD1
    generalize H1 = H at hP hS ⊢
    have hP : va_P D classes [(mc, .inr (3, [.int res, .int stp, .int pcn, .ref ky, .ref vy, .ref gy, .ref ly, .ref sy, .int (hgt - 1), .int ap])), (ky, .inl (cI, 20, .inl fk)), (vy, .inl (cI, 20, .inl fv)), (gy, .inl (cI, 3, .inl fa)), (sy, .inl (cI, 8, .inl fs)), (ly, .inl (cI, 4, .inl (wr fl 4 n (rd fs 8 (hgt - 1)))))] H := hP
    have hD : va_D A [(mc, .inr (3, [.int res, .int stp, .int pcn, .ref ky, .ref vy, .ref gy, .ref ly, .ref sy, .int (hgt - 1), .int ap])), (ky, .inl (cI, 20, .inl fk)), (vy, .inl (cI, 20, .inl fv)), (gy, .inl (cI, 3, .inl fa)), (sy, .inl (cI, 8, .inl fs)), (ly, .inl (cI, 4, .inl (wr fl 4 n (rd fs 8 (hgt - 1)))))] := hD
    refine lv_goto (tgt := 174) hx hb d_Machine_move_94 (by decide) ?_
    refine W.vret hx hb hr (fun t ht hW => ⟨⟨(res, stp, pcn, fk, fv, fa, (wr fl 4 n (rd fs 8 (hgt - 1))), fs, (hgt - 1), ap), rfl, ?_, ?_⟩, hS.F ht⟩) hS.2.2 d_Machine_move_174
    · rfl
    · exact ⟨by rw [ht]; exact hP.sub [0, 1, 2, 3, 5, 4] rfl, hD.sub [0, 1, 2, 3, 5, 4] (by decide) rfl⟩
  · -- case 4
    have h1 : op = 4 := Int32.toInt_inj.mp (by rw [h1]; decide)
    subst h1
    refine lv_tableIn (tgt := 105) (off := 104) hx hb d_Machine_move_1 (by decide) (by decide) (by decide +kernel) (by decide) ?_
    refine lv_aload_n hx hb d_Machine_move_105 rfl (lv_at hl 0 rfl) ?_
    have hPc := hP.sub (ws' := [(mc, .inr (3, [.int res, .int stp, .int pcn, .ref ky, .ref vy, .ref gy, .ref ly, .ref sy, .int hgt, .int ap])), (ky, .inl (cI, 20, .inl fk)), (vy, .inl (cI, 20, .inl fv)), (gy, .inl (cI, 3, .inl fa)), (ly, .inl (cI, 4, .inl fl)), (sy, .inl (cI, 8, .inl fs))]) [0, 1, 2, 3, 4, 5] rfl
    have hDc := hD.sub (ws' := [(mc, .inr (3, [.int res, .int stp, .int pcn, .ref ky, .ref vy, .ref gy, .ref ly, .ref sy, .int hgt, .int ap])), (ky, .inl (cI, 20, .inl fk)), (vy, .inl (cI, 20, .inl fv)), (gy, .inl (cI, 3, .inl fa)), (ly, .inl (cI, 4, .inl fl)), (sy, .inl (cI, 8, .inl fs))]) [0, 1, 2, 3, 4, 5] (by decide) rfl
    have hFc := va_free (wc := [(mc, .inr (3, [.int res, .int stp, .int pcn, .ref ky, .ref vy, .ref gy, .ref ly, .ref sy, .int hgt, .int ap])), (ky, .inl (cI, 20, .inl fk)), (vy, .inl (cI, 20, .inl fv)), (gy, .inl (cI, 3, .inl fa)), (ly, .inl (cI, 4, .inl fl)), (sy, .inl (cI, 8, .inl fs))]) hD hS hA [0, 1, 2, 3, 4, 5] rfl
    refine va_calli (va_runV (As := []) (rest := []) ⟨hx, hb, hml, hown, hts⟩ (c_Machine_pop l D cI cZ tN tG s.heap.size mc ky vy gy ly sy res stp pcn fk fv fa fl fs hgt ap) (cwV 0 hts (gd4 k_270 k_272 k_7 k_21 k_273) rfl rfl rfl (by decide +kernel) ⟨Nat.le_of_ble_eq_true rfl, Nat.le_of_ble_eq_true rfl⟩) ⟨MZ_blind, va_recv (q0 := 0) (ci := 3) hE.1 hP rfl rfl, mz_pre hE hZ hS hPc hDc hFc⟩ rfl rfl hl.1 rfl (lv_room (Nat.le_of_ble_eq_true rfl)) d_Machine_move_106 ⟨Nat.zero_le _, Nat.zero_le _⟩) hS (fun q _ h => hFc q h) hFc (fun r u t H1 locs ht hvm hw hB hz1 hk1 hS => ?_)
    obtain ⟨hP1, hD1⟩ := hB
    rw [ht] at hP1
    subst hw
    obtain ⟨hP, hD⟩ := va_join (wr := []) (w1 := [(mc, .inr (3, [.int res, .int stp, .int pcn, .ref ky, .ref vy, .ref gy, .ref ly, .ref sy, .int (hgt - 1), .int ap])), (ky, .inl (cI, 20, .inl fk)), (vy, .inl (cI, 20, .inl fv)), (gy, .inl (cI, 3, .inl fa)), (ly, .inl (cI, 4, .inl fl)), (sy, .inl (cI, 8, .inl fs))]) hP hD [0, 1, 2, 3, 4, 5] [] rfl rfl (by decide) (by decide) hk1 hFc hP1 hD1
    generalize H1 = H at hP hS ⊢
    have hP : va_P D classes [(mc, .inr (3, [.int res, .int stp, .int pcn, .ref ky, .ref vy, .ref gy, .ref ly, .ref sy, .int (hgt - 1), .int ap])), (ky, .inl (cI, 20, .inl fk)), (vy, .inl (cI, 20, .inl fv)), (gy, .inl (cI, 3, .inl fa)), (ly, .inl (cI, 4, .inl fl)), (sy, .inl (cI, 8, .inl fs))] H := hP
    have hD : va_D A [(mc, .inr (3, [.int res, .int stp, .int pcn, .ref ky, .ref vy, .ref gy, .ref ly, .ref sy, .int (hgt - 1), .int ap])), (ky, .inl (cI, 20, .inl fk)), (vy, .inl (cI, 20, .inl fv)), (gy, .inl (cI, 3, .inl fa)), (ly, .inl (cI, 4, .inl fl)), (sy, .inl (cI, 8, .inl fs))] := hD
    refine lv_istore_n hx hb d_Machine_move_109 rfl hl (by decide) rfl (fun ls hl => ?_)
    have hl : lv_has ls 8 [(3, .int (rd fs 8 (hgt - 1))), (0, .ref mc), (1, .int 4), (2, .int n)] := hl
    refine lv_aload_n hx hb d_Machine_move_110 rfl (lv_at hl 1 rfl) ?_
    refine lv_iload_n hx hb d_Machine_move_111 rfl (lv_at hl 0 rfl) ?_
    have hPc := hP.sub (ws' := [(mc, .inr (3, [.int res, .int stp, .int pcn, .ref ky, .ref vy, .ref gy, .ref ly, .ref sy, .int (hgt - 1), .int ap])), (ky, .inl (cI, 20, .inl fk)), (vy, .inl (cI, 20, .inl fv)), (gy, .inl (cI, 3, .inl fa)), (ly, .inl (cI, 4, .inl fl)), (sy, .inl (cI, 8, .inl fs))]) [0, 1, 2, 3, 4, 5] rfl
    have hDc := hD.sub (ws' := [(mc, .inr (3, [.int res, .int stp, .int pcn, .ref ky, .ref vy, .ref gy, .ref ly, .ref sy, .int (hgt - 1), .int ap])), (ky, .inl (cI, 20, .inl fk)), (vy, .inl (cI, 20, .inl fv)), (gy, .inl (cI, 3, .inl fa)), (ly, .inl (cI, 4, .inl fl)), (sy, .inl (cI, 8, .inl fs))]) [0, 1, 2, 3, 4, 5] (by decide) rfl
    have hFc := va_free (wc := [(mc, .inr (3, [.int res, .int stp, .int pcn, .ref ky, .ref vy, .ref gy, .ref ly, .ref sy, .int (hgt - 1), .int ap])), (ky, .inl (cI, 20, .inl fk)), (vy, .inl (cI, 20, .inl fv)), (gy, .inl (cI, 3, .inl fa)), (ly, .inl (cI, 4, .inl fl)), (sy, .inl (cI, 8, .inl fs))]) hD hS hA [0, 1, 2, 3, 4, 5] rfl
    refine va_callv (va_runV (As := [.int (rd fs 8 (hgt - 1))]) (rest := []) ⟨hx, hb, hml, hown, hts⟩ (c_Machine_push l D cI cZ tN tG H.size mc ky vy gy ly sy res stp pcn fk fv fa fl fs (hgt - 1) ap (rd fs 8 (hgt - 1))) (cwV 1 hts (gd4 k_283 k_285 k_10 k_21 k_286) rfl rfl rfl (by decide +kernel) ⟨Nat.le_of_ble_eq_true rfl, Nat.le_of_ble_eq_true rfl⟩) ⟨MZ_blind, va_recv (q0 := 0) (ci := 3) hE.1 hP rfl rfl, mz_pre hE hZ hS hPc hDc hFc⟩ rfl rfl hl.1 rfl (lv_room (Nat.le_of_ble_eq_true rfl)) d_Machine_move_112 ⟨Nat.zero_le _, Nat.zero_le _⟩) hS (fun q _ h => hFc q h) hFc (fun u t H1 locs ht hvm hw hB hz1 hk1 hS => ?_)
    obtain ⟨hP1, hD1⟩ := hB
    rw [ht] at hP1
    obtain ⟨hP, hD⟩ := va_join (wr := []) (w1 := [(mc, .inr (3, [.int res, .int stp, .int pcn, .ref ky, .ref vy, .ref gy, .ref ly, .ref sy, .int ((hgt - 1) + 1), .int ap])), (ky, .inl (cI, 20, .inl fk)), (vy, .inl (cI, 20, .inl fv)), (gy, .inl (cI, 3, .inl fa)), (ly, .inl (cI, 4, .inl fl)), (sy, .inl (cI, 8, .inl (wr fs 8 (hgt - 1) (rd fs 8 (hgt - 1)))))]) hP hD [0, 1, 2, 3, 4, 5] [] rfl rfl (by decide) (by decide) hk1 hFc hP1 hD1
    generalize H1 = H at hP hS ⊢
    have hP : va_P D classes [(mc, .inr (3, [.int res, .int stp, .int pcn, .ref ky, .ref vy, .ref gy, .ref ly, .ref sy, .int ((hgt - 1) + 1), .int ap])), (ky, .inl (cI, 20, .inl fk)), (vy, .inl (cI, 20, .inl fv)), (gy, .inl (cI, 3, .inl fa)), (ly, .inl (cI, 4, .inl fl)), (sy, .inl (cI, 8, .inl (wr fs 8 (hgt - 1) (rd fs 8 (hgt - 1)))))] H := hP
    have hD : va_D A [(mc, .inr (3, [.int res, .int stp, .int pcn, .ref ky, .ref vy, .ref gy, .ref ly, .ref sy, .int ((hgt - 1) + 1), .int ap])), (ky, .inl (cI, 20, .inl fk)), (vy, .inl (cI, 20, .inl fv)), (gy, .inl (cI, 3, .inl fa)), (ly, .inl (cI, 4, .inl fl)), (sy, .inl (cI, 8, .inl (wr fs 8 (hgt - 1) (rd fs 8 (hgt - 1)))))] := hD
    refine lv_aload_n hx hb d_Machine_move_115 rfl (lv_at hl 1 rfl) ?_
    refine lv_iload_n hx hb d_Machine_move_116 rfl (lv_at hl 0 rfl) ?_
    have hPc := hP.sub (ws' := [(mc, .inr (3, [.int res, .int stp, .int pcn, .ref ky, .ref vy, .ref gy, .ref ly, .ref sy, .int ((hgt - 1) + 1), .int ap])), (ky, .inl (cI, 20, .inl fk)), (vy, .inl (cI, 20, .inl fv)), (gy, .inl (cI, 3, .inl fa)), (ly, .inl (cI, 4, .inl fl)), (sy, .inl (cI, 8, .inl (wr fs 8 (hgt - 1) (rd fs 8 (hgt - 1)))))]) [0, 1, 2, 3, 4, 5] rfl
    have hDc := hD.sub (ws' := [(mc, .inr (3, [.int res, .int stp, .int pcn, .ref ky, .ref vy, .ref gy, .ref ly, .ref sy, .int ((hgt - 1) + 1), .int ap])), (ky, .inl (cI, 20, .inl fk)), (vy, .inl (cI, 20, .inl fv)), (gy, .inl (cI, 3, .inl fa)), (ly, .inl (cI, 4, .inl fl)), (sy, .inl (cI, 8, .inl (wr fs 8 (hgt - 1) (rd fs 8 (hgt - 1)))))]) [0, 1, 2, 3, 4, 5] (by decide) rfl
    have hFc := va_free (wc := [(mc, .inr (3, [.int res, .int stp, .int pcn, .ref ky, .ref vy, .ref gy, .ref ly, .ref sy, .int ((hgt - 1) + 1), .int ap])), (ky, .inl (cI, 20, .inl fk)), (vy, .inl (cI, 20, .inl fv)), (gy, .inl (cI, 3, .inl fa)), (ly, .inl (cI, 4, .inl fl)), (sy, .inl (cI, 8, .inl (wr fs 8 (hgt - 1) (rd fs 8 (hgt - 1)))))]) hD hS hA [0, 1, 2, 3, 4, 5] rfl
    refine va_callv (va_runV (As := [.int (rd fs 8 (hgt - 1))]) (rest := []) ⟨hx, hb, hml, hown, hts⟩ (c_Machine_push l D cI cZ tN tG H.size mc ky vy gy ly sy res stp pcn fk fv fa fl (wr fs 8 (hgt - 1) (rd fs 8 (hgt - 1))) ((hgt - 1) + 1) ap (rd fs 8 (hgt - 1))) (cwV 1 hts (gd4 k_283 k_285 k_10 k_21 k_286) rfl rfl rfl (by decide +kernel) ⟨Nat.le_of_ble_eq_true rfl, Nat.le_of_ble_eq_true rfl⟩) ⟨MZ_blind, va_recv (q0 := 0) (ci := 3) hE.1 hP rfl rfl, mz_pre hE hZ hS hPc hDc hFc⟩ rfl rfl hl.1 rfl (lv_room (Nat.le_of_ble_eq_true rfl)) d_Machine_move_117 ⟨Nat.zero_le _, Nat.zero_le _⟩) hS (fun q _ h => hFc q h) hFc (fun u t H1 locs ht hvm hw hB hz1 hk1 hS => ?_)
    obtain ⟨hP1, hD1⟩ := hB
    rw [ht] at hP1
    obtain ⟨hP, hD⟩ := va_join (wr := []) (w1 := [(mc, .inr (3, [.int res, .int stp, .int pcn, .ref ky, .ref vy, .ref gy, .ref ly, .ref sy, .int (((hgt - 1) + 1) + 1), .int ap])), (ky, .inl (cI, 20, .inl fk)), (vy, .inl (cI, 20, .inl fv)), (gy, .inl (cI, 3, .inl fa)), (ly, .inl (cI, 4, .inl fl)), (sy, .inl (cI, 8, .inl (wr (wr fs 8 (hgt - 1) (rd fs 8 (hgt - 1))) 8 ((hgt - 1) + 1) (rd fs 8 (hgt - 1)))))]) hP hD [0, 1, 2, 3, 4, 5] [] rfl rfl (by decide) (by decide) hk1 hFc hP1 hD1
    generalize H1 = H at hP hS ⊢
    have hP : va_P D classes [(mc, .inr (3, [.int res, .int stp, .int pcn, .ref ky, .ref vy, .ref gy, .ref ly, .ref sy, .int (((hgt - 1) + 1) + 1), .int ap])), (ky, .inl (cI, 20, .inl fk)), (vy, .inl (cI, 20, .inl fv)), (gy, .inl (cI, 3, .inl fa)), (ly, .inl (cI, 4, .inl fl)), (sy, .inl (cI, 8, .inl (wr (wr fs 8 (hgt - 1) (rd fs 8 (hgt - 1))) 8 ((hgt - 1) + 1) (rd fs 8 (hgt - 1)))))] H := hP
    have hD : va_D A [(mc, .inr (3, [.int res, .int stp, .int pcn, .ref ky, .ref vy, .ref gy, .ref ly, .ref sy, .int (((hgt - 1) + 1) + 1), .int ap])), (ky, .inl (cI, 20, .inl fk)), (vy, .inl (cI, 20, .inl fv)), (gy, .inl (cI, 3, .inl fa)), (ly, .inl (cI, 4, .inl fl)), (sy, .inl (cI, 8, .inl (wr (wr fs 8 (hgt - 1) (rd fs 8 (hgt - 1))) 8 ((hgt - 1) + 1) (rd fs 8 (hgt - 1)))))] := hD
    refine lv_goto (tgt := 174) hx hb d_Machine_move_120 (by decide) ?_
    refine W.vret hx hb hr (fun t ht hW => ⟨⟨(res, stp, pcn, fk, fv, fa, fl, (wr (wr fs 8 (hgt - 1) (rd fs 8 (hgt - 1))) 8 ((hgt - 1) + 1) (rd fs 8 (hgt - 1))), (((hgt - 1) + 1) + 1), ap), rfl, ?_, ?_⟩, hS.F ht⟩) hS.2.2 d_Machine_move_174
    · rfl
    · exact ⟨by rw [ht]; exact hP.sub [0, 1, 2, 3, 4, 5] rfl, hD.sub [0, 1, 2, 3, 4, 5] (by decide) rfl⟩
  · -- case 5
    have h1 : op = 5 := Int32.toInt_inj.mp (by rw [h1]; decide)
    subst h1
    refine lv_tableIn (tgt := 123) (off := 122) hx hb d_Machine_move_1 (by decide) (by decide) (by decide +kernel) (by decide) ?_
    refine lv_aload_n hx hb d_Machine_move_123 rfl (lv_at hl 0 rfl) ?_
    have hPc := hP.sub (ws' := [(mc, .inr (3, [.int res, .int stp, .int pcn, .ref ky, .ref vy, .ref gy, .ref ly, .ref sy, .int hgt, .int ap])), (ky, .inl (cI, 20, .inl fk)), (vy, .inl (cI, 20, .inl fv)), (gy, .inl (cI, 3, .inl fa)), (ly, .inl (cI, 4, .inl fl)), (sy, .inl (cI, 8, .inl fs))]) [0, 1, 2, 3, 4, 5] rfl
    have hDc := hD.sub (ws' := [(mc, .inr (3, [.int res, .int stp, .int pcn, .ref ky, .ref vy, .ref gy, .ref ly, .ref sy, .int hgt, .int ap])), (ky, .inl (cI, 20, .inl fk)), (vy, .inl (cI, 20, .inl fv)), (gy, .inl (cI, 3, .inl fa)), (ly, .inl (cI, 4, .inl fl)), (sy, .inl (cI, 8, .inl fs))]) [0, 1, 2, 3, 4, 5] (by decide) rfl
    have hFc := va_free (wc := [(mc, .inr (3, [.int res, .int stp, .int pcn, .ref ky, .ref vy, .ref gy, .ref ly, .ref sy, .int hgt, .int ap])), (ky, .inl (cI, 20, .inl fk)), (vy, .inl (cI, 20, .inl fv)), (gy, .inl (cI, 3, .inl fa)), (ly, .inl (cI, 4, .inl fl)), (sy, .inl (cI, 8, .inl fs))]) hD hS hA [0, 1, 2, 3, 4, 5] rfl
    refine va_calli (va_runV (As := []) (rest := []) ⟨hx, hb, hml, hown, hts⟩ (c_Machine_pop l D cI cZ tN tG s.heap.size mc ky vy gy ly sy res stp pcn fk fv fa fl fs hgt ap) (cwV 0 hts (gd4 k_270 k_272 k_7 k_21 k_273) rfl rfl rfl (by decide +kernel) ⟨Nat.le_of_ble_eq_true rfl, Nat.le_of_ble_eq_true rfl⟩) ⟨MZ_blind, va_recv (q0 := 0) (ci := 3) hE.1 hP rfl rfl, mz_pre hE hZ hS hPc hDc hFc⟩ rfl rfl hl.1 rfl (lv_room (Nat.le_of_ble_eq_true rfl)) d_Machine_move_124 ⟨Nat.zero_le _, Nat.zero_le _⟩) hS (fun q _ h => hFc q h) hFc (fun r u t H1 locs ht hvm hw hB hz1 hk1 hS => ?_)
    obtain ⟨hP1, hD1⟩ := hB
    rw [ht] at hP1
    subst hw
    obtain ⟨hP, hD⟩ := va_join (wr := []) (w1 := [(mc, .inr (3, [.int res, .int stp, .int pcn, .ref ky, .ref vy, .ref gy, .ref ly, .ref sy, .int (hgt - 1), .int ap])), (ky, .inl (cI, 20, .inl fk)), (vy, .inl (cI, 20, .inl fv)), (gy, .inl (cI, 3, .inl fa)), (ly, .inl (cI, 4, .inl fl)), (sy, .inl (cI, 8, .inl fs))]) hP hD [0, 1, 2, 3, 4, 5] [] rfl rfl (by decide) (by decide) hk1 hFc hP1 hD1
    generalize H1 = H at hP hS ⊢
    have hP : va_P D classes [(mc, .inr (3, [.int res, .int stp, .int pcn, .ref ky, .ref vy, .ref gy, .ref ly, .ref sy, .int (hgt - 1), .int ap])), (ky, .inl (cI, 20, .inl fk)), (vy, .inl (cI, 20, .inl fv)), (gy, .inl (cI, 3, .inl fa)), (ly, .inl (cI, 4, .inl fl)), (sy, .inl (cI, 8, .inl fs))] H := hP
    have hD : va_D A [(mc, .inr (3, [.int res, .int stp, .int pcn, .ref ky, .ref vy, .ref gy, .ref ly, .ref sy, .int (hgt - 1), .int ap])), (ky, .inl (cI, 20, .inl fk)), (vy, .inl (cI, 20, .inl fv)), (gy, .inl (cI, 3, .inl fa)), (ly, .inl (cI, 4, .inl fl)), (sy, .inl (cI, 8, .inl fs))] := hD
    refine lv_istore hx hb d_Machine_move_127 hl (by decide) rfl (fun ls hl => ?_)
    have hl : lv_has ls 8 [(4, .int (rd fs 8 (hgt - 1))), (0, .ref mc), (1, .int 5), (2, .int n)] := hl
    refine lv_aload_n hx hb d_Machine_move_129 rfl (lv_at hl 1 rfl) ?_
    have hPc := hP.sub (ws' := [(mc, .inr (3, [.int res, .int stp, .int pcn, .ref ky, .ref vy, .ref gy, .ref ly, .ref sy, .int (hgt - 1), .int ap])), (ky, .inl (cI, 20, .inl fk)), (vy, .inl (cI, 20, .inl fv)), (gy, .inl (cI, 3, .inl fa)), (ly, .inl (cI, 4, .inl fl)), (sy, .inl (cI, 8, .inl fs))]) [0, 1, 2, 3, 4, 5] rfl
    have hDc := hD.sub (ws' := [(mc, .inr (3, [.int res, .int stp, .int pcn, .ref ky, .ref vy, .ref gy, .ref ly, .ref sy, .int (hgt - 1), .int ap])), (ky, .inl (cI, 20, .inl fk)), (vy, .inl (cI, 20, .inl fv)), (gy, .inl (cI, 3, .inl fa)), (ly, .inl (cI, 4, .inl fl)), (sy, .inl (cI, 8, .inl fs))]) [0, 1, 2, 3, 4, 5] (by decide) rfl
    have hFc := va_free (wc := [(mc, .inr (3, [.int res, .int stp, .int pcn, .ref ky, .ref vy, .ref gy, .ref ly, .ref sy, .int (hgt - 1), .int ap])), (ky, .inl (cI, 20, .inl fk)), (vy, .inl (cI, 20, .inl fv)), (gy, .inl (cI, 3, .inl fa)), (ly, .inl (cI, 4, .inl fl)), (sy, .inl (cI, 8, .inl fs))]) hD hS hA [0, 1, 2, 3, 4, 5] rfl
    refine va_calli (va_runV (As := []) (rest := []) ⟨hx, hb, hml, hown, hts⟩ (c_Machine_pop l D cI cZ tN tG H.size mc ky vy gy ly sy res stp pcn fk fv fa fl fs (hgt - 1) ap) (cwV 0 hts (gd4 k_270 k_272 k_7 k_21 k_273) rfl rfl rfl (by decide +kernel) ⟨Nat.le_of_ble_eq_true rfl, Nat.le_of_ble_eq_true rfl⟩) ⟨MZ_blind, va_recv (q0 := 0) (ci := 3) hE.1 hP rfl rfl, mz_pre hE hZ hS hPc hDc hFc⟩ rfl rfl hl.1 rfl (lv_room (Nat.le_of_ble_eq_true rfl)) d_Machine_move_130 ⟨Nat.zero_le _, Nat.zero_le _⟩) hS (fun q _ h => hFc q h) hFc (fun r u t H1 locs ht hvm hw hB hz1 hk1 hS => ?_)
    obtain ⟨hP1, hD1⟩ := hB
    rw [ht] at hP1
    subst hw
    obtain ⟨hP, hD⟩ := va_join (wr := []) (w1 := [(mc, .inr (3, [.int res, .int stp, .int pcn, .ref ky, .ref vy, .ref gy, .ref ly, .ref sy, .int ((hgt - 1) - 1), .int ap])), (ky, .inl (cI, 20, .inl fk)), (vy, .inl (cI, 20, .inl fv)), (gy, .inl (cI, 3, .inl fa)), (ly, .inl (cI, 4, .inl fl)), (sy, .inl (cI, 8, .inl fs))]) hP hD [0, 1, 2, 3, 4, 5] [] rfl rfl (by decide) (by decide) hk1 hFc hP1 hD1
    generalize H1 = H at hP hS ⊢
    have hP : va_P D classes [(mc, .inr (3, [.int res, .int stp, .int pcn, .ref ky, .ref vy, .ref gy, .ref ly, .ref sy, .int ((hgt - 1) - 1), .int ap])), (ky, .inl (cI, 20, .inl fk)), (vy, .inl (cI, 20, .inl fv)), (gy, .inl (cI, 3, .inl fa)), (ly, .inl (cI, 4, .inl fl)), (sy, .inl (cI, 8, .inl fs))] H := hP
    have hD : va_D A [(mc, .inr (3, [.int res, .int stp, .int pcn, .ref ky, .ref vy, .ref gy, .ref ly, .ref sy, .int ((hgt - 1) - 1), .int ap])), (ky, .inl (cI, 20, .inl fk)), (vy, .inl (cI, 20, .inl fv)), (gy, .inl (cI, 3, .inl fa)), (ly, .inl (cI, 4, .inl fl)), (sy, .inl (cI, 8, .inl fs))] := hD
    refine lv_istore hx hb d_Machine_move_133 hl (by decide) rfl (fun ls hl => ?_)
    have hl : lv_has ls 8 [(5, .int (rd fs 8 ((hgt - 1) - 1))), (4, .int (rd fs 8 (hgt - 1))), (0, .ref mc), (1, .int 5), (2, .int n)] := hl
    refine lv_aload_n hx hb d_Machine_move_135 rfl (lv_at hl 2 rfl) ?_
    refine lv_iload hx hb d_Machine_move_136 (lv_at hl 1 rfl) ?_
    have hPc := hP.sub (ws' := [(mc, .inr (3, [.int res, .int stp, .int pcn, .ref ky, .ref vy, .ref gy, .ref ly, .ref sy, .int ((hgt - 1) - 1), .int ap])), (ky, .inl (cI, 20, .inl fk)), (vy, .inl (cI, 20, .inl fv)), (gy, .inl (cI, 3, .inl fa)), (ly, .inl (cI, 4, .inl fl)), (sy, .inl (cI, 8, .inl fs))]) [0, 1, 2, 3, 4, 5] rfl
    have hDc := hD.sub (ws' := [(mc, .inr (3, [.int res, .int stp, .int pcn, .ref ky, .ref vy, .ref gy, .ref ly, .ref sy, .int ((hgt - 1) - 1), .int ap])), (ky, .inl (cI, 20, .inl fk)), (vy, .inl (cI, 20, .inl fv)), (gy, .inl (cI, 3, .inl fa)), (ly, .inl (cI, 4, .inl fl)), (sy, .inl (cI, 8, .inl fs))]) [0, 1, 2, 3, 4, 5] (by decide) rfl
    have hFc := va_free (wc := [(mc, .inr (3, [.int res, .int stp, .int pcn, .ref ky, .ref vy, .ref gy, .ref ly, .ref sy, .int ((hgt - 1) - 1), .int ap])), (ky, .inl (cI, 20, .inl fk)), (vy, .inl (cI, 20, .inl fv)), (gy, .inl (cI, 3, .inl fa)), (ly, .inl (cI, 4, .inl fl)), (sy, .inl (cI, 8, .inl fs))]) hD hS hA [0, 1, 2, 3, 4, 5] rfl
    refine va_callv (va_runV (As := [.int (rd fs 8 (hgt - 1))]) (rest := []) ⟨hx, hb, hml, hown, hts⟩ (c_Machine_push l D cI cZ tN tG H.size mc ky vy gy ly sy res stp pcn fk fv fa fl fs ((hgt - 1) - 1) ap (rd fs 8 (hgt - 1))) (cwV 1 hts (gd4 k_283 k_285 k_10 k_21 k_286) rfl rfl rfl (by decide +kernel) ⟨Nat.le_of_ble_eq_true rfl, Nat.le_of_ble_eq_true rfl⟩) ⟨MZ_blind, va_recv (q0 := 0) (ci := 3) hE.1 hP rfl rfl, mz_pre hE hZ hS hPc hDc hFc⟩ rfl rfl hl.1 rfl (lv_room (Nat.le_of_ble_eq_true rfl)) d_Machine_move_138 ⟨Nat.zero_le _, Nat.zero_le _⟩) hS (fun q _ h => hFc q h) hFc (fun u t H1 locs ht hvm hw hB hz1 hk1 hS => ?_)
    obtain ⟨hP1, hD1⟩ := hB
    rw [ht] at hP1
    obtain ⟨hP, hD⟩ := va_join (wr := []) (w1 := [(mc, .inr (3, [.int res, .int stp, .int pcn, .ref ky, .ref vy, .ref gy, .ref ly, .ref sy, .int (((hgt - 1) - 1) + 1), .int ap])), (ky, .inl (cI, 20, .inl fk)), (vy, .inl (cI, 20, .inl fv)), (gy, .inl (cI, 3, .inl fa)), (ly, .inl (cI, 4, .inl fl)), (sy, .inl (cI, 8, .inl (wr fs 8 ((hgt - 1) - 1) (rd fs 8 (hgt - 1)))))]) hP hD [0, 1, 2, 3, 4, 5] [] rfl rfl (by decide) (by decide) hk1 hFc hP1 hD1
    generalize H1 = H at hP hS ⊢
    have hP : va_P D classes [(mc, .inr (3, [.int res, .int stp, .int pcn, .ref ky, .ref vy, .ref gy, .ref ly, .ref sy, .int (((hgt - 1) - 1) + 1), .int ap])), (ky, .inl (cI, 20, .inl fk)), (vy, .inl (cI, 20, .inl fv)), (gy, .inl (cI, 3, .inl fa)), (ly, .inl (cI, 4, .inl fl)), (sy, .inl (cI, 8, .inl (wr fs 8 ((hgt - 1) - 1) (rd fs 8 (hgt - 1)))))] H := hP
    have hD : va_D A [(mc, .inr (3, [.int res, .int stp, .int pcn, .ref ky, .ref vy, .ref gy, .ref ly, .ref sy, .int (((hgt - 1) - 1) + 1), .int ap])), (ky, .inl (cI, 20, .inl fk)), (vy, .inl (cI, 20, .inl fv)), (gy, .inl (cI, 3, .inl fa)), (ly, .inl (cI, 4, .inl fl)), (sy, .inl (cI, 8, .inl (wr fs 8 ((hgt - 1) - 1) (rd fs 8 (hgt - 1)))))] := hD
    refine lv_aload_n hx hb d_Machine_move_141 rfl (lv_at hl 2 rfl) ?_
    refine lv_iload hx hb d_Machine_move_142 (lv_at hl 0 rfl) ?_
    have hPc := hP.sub (ws' := [(mc, .inr (3, [.int res, .int stp, .int pcn, .ref ky, .ref vy, .ref gy, .ref ly, .ref sy, .int (((hgt - 1) - 1) + 1), .int ap])), (ky, .inl (cI, 20, .inl fk)), (vy, .inl (cI, 20, .inl fv)), (gy, .inl (cI, 3, .inl fa)), (ly, .inl (cI, 4, .inl fl)), (sy, .inl (cI, 8, .inl (wr fs 8 ((hgt - 1) - 1) (rd fs 8 (hgt - 1)))))]) [0, 1, 2, 3, 4, 5] rfl
    have hDc := hD.sub (ws' := [(mc, .inr (3, [.int res, .int stp, .int pcn, .ref ky, .ref vy, .ref gy, .ref ly, .ref sy, .int (((hgt - 1) - 1) + 1), .int ap])), (ky, .inl (cI, 20, .inl fk)), (vy, .inl (cI, 20, .inl fv)), (gy, .inl (cI, 3, .inl fa)), (ly, .inl (cI, 4, .inl fl)), (sy, .inl (cI, 8, .inl (wr fs 8 ((hgt - 1) - 1) (rd fs 8 (hgt - 1)))))]) [0, 1, 2, 3, 4, 5] (by decide) rfl
    have hFc := va_free (wc := [(mc, .inr (3, [.int res, .int stp, .int pcn, .ref ky, .ref vy, .ref gy, .ref ly, .ref sy, .int (((hgt - 1) - 1) + 1), .int ap])), (ky, .inl (cI, 20, .inl fk)), (vy, .inl (cI, 20, .inl fv)), (gy, .inl (cI, 3, .inl fa)), (ly, .inl (cI, 4, .inl fl)), (sy, .inl (cI, 8, .inl (wr fs 8 ((hgt - 1) - 1) (rd fs 8 (hgt - 1)))))]) hD hS hA [0, 1, 2, 3, 4, 5] rfl
    refine va_callv (va_runV (As := [.int (rd fs 8 ((hgt - 1) - 1))]) (rest := []) ⟨hx, hb, hml, hown, hts⟩ (c_Machine_push l D cI cZ tN tG H.size mc ky vy gy ly sy res stp pcn fk fv fa fl (wr fs 8 ((hgt - 1) - 1) (rd fs 8 (hgt - 1))) (((hgt - 1) - 1) + 1) ap (rd fs 8 ((hgt - 1) - 1))) (cwV 1 hts (gd4 k_283 k_285 k_10 k_21 k_286) rfl rfl rfl (by decide +kernel) ⟨Nat.le_of_ble_eq_true rfl, Nat.le_of_ble_eq_true rfl⟩) ⟨MZ_blind, va_recv (q0 := 0) (ci := 3) hE.1 hP rfl rfl, mz_pre hE hZ hS hPc hDc hFc⟩ rfl rfl hl.1 rfl (lv_room (Nat.le_of_ble_eq_true rfl)) d_Machine_move_144 ⟨Nat.zero_le _, Nat.zero_le _⟩) hS (fun q _ h => hFc q h) hFc (fun u t H1 locs ht hvm hw hB hz1 hk1 hS => ?_)
    obtain ⟨hP1, hD1⟩ := hB
    rw [ht] at hP1
    obtain ⟨hP, hD⟩ := va_join (wr := []) (w1 := [(mc, .inr (3, [.int res, .int stp, .int pcn, .ref ky, .ref vy, .ref gy, .ref ly, .ref sy, .int ((((hgt - 1) - 1) + 1) + 1), .int ap])), (ky, .inl (cI, 20, .inl fk)), (vy, .inl (cI, 20, .inl fv)), (gy, .inl (cI, 3, .inl fa)), (ly, .inl (cI, 4, .inl fl)), (sy, .inl (cI, 8, .inl (wr (wr fs 8 ((hgt - 1) - 1) (rd fs 8 (hgt - 1))) 8 (((hgt - 1) - 1) + 1) (rd fs 8 ((hgt - 1) - 1)))))]) hP hD [0, 1, 2, 3, 4, 5] [] rfl rfl (by decide) (by decide) hk1 hFc hP1 hD1
    generalize H1 = H at hP hS ⊢
    have hP : va_P D classes [(mc, .inr (3, [.int res, .int stp, .int pcn, .ref ky, .ref vy, .ref gy, .ref ly, .ref sy, .int ((((hgt - 1) - 1) + 1) + 1), .int ap])), (ky, .inl (cI, 20, .inl fk)), (vy, .inl (cI, 20, .inl fv)), (gy, .inl (cI, 3, .inl fa)), (ly, .inl (cI, 4, .inl fl)), (sy, .inl (cI, 8, .inl (wr (wr fs 8 ((hgt - 1) - 1) (rd fs 8 (hgt - 1))) 8 (((hgt - 1) - 1) + 1) (rd fs 8 ((hgt - 1) - 1)))))] H := hP
    have hD : va_D A [(mc, .inr (3, [.int res, .int stp, .int pcn, .ref ky, .ref vy, .ref gy, .ref ly, .ref sy, .int ((((hgt - 1) - 1) + 1) + 1), .int ap])), (ky, .inl (cI, 20, .inl fk)), (vy, .inl (cI, 20, .inl fv)), (gy, .inl (cI, 3, .inl fa)), (ly, .inl (cI, 4, .inl fl)), (sy, .inl (cI, 8, .inl (wr (wr fs 8 ((hgt - 1) - 1) (rd fs 8 (hgt - 1))) 8 (((hgt - 1) - 1) + 1) (rd fs 8 ((hgt - 1) - 1)))))] := hD
    refine lv_goto (tgt := 174) hx hb d_Machine_move_147 (by decide) ?_
    refine W.vret hx hb hr (fun t ht hW => ⟨⟨(res, stp, pcn, fk, fv, fa, fl, (wr (wr fs 8 ((hgt - 1) - 1) (rd fs 8 (hgt - 1))) 8 (((hgt - 1) - 1) + 1) (rd fs 8 ((hgt - 1) - 1))), ((((hgt - 1) - 1) + 1) + 1), ap), rfl, ?_, ?_⟩, hS.F ht⟩) hS.2.2 d_Machine_move_174
    · rfl
    · exact ⟨by rw [ht]; exact hP.sub [0, 1, 2, 3, 4, 5] rfl, hD.sub [0, 1, 2, 3, 4, 5] (by decide) rfl⟩
  · -- case 6
    have h1 : op = 6 := Int32.toInt_inj.mp (by rw [h1]; decide)
    subst h1
    refine lv_tableIn (tgt := 97) (off := 96) hx hb d_Machine_move_1 (by decide) (by decide) (by decide +kernel) (by decide) ?_
    refine lv_aload_n hx hb d_Machine_move_97 rfl (lv_at hl 0 rfl) ?_
    have hPc := hP.sub (ws' := [(mc, .inr (3, [.int res, .int stp, .int pcn, .ref ky, .ref vy, .ref gy, .ref ly, .ref sy, .int hgt, .int ap])), (ky, .inl (cI, 20, .inl fk)), (vy, .inl (cI, 20, .inl fv)), (gy, .inl (cI, 3, .inl fa)), (ly, .inl (cI, 4, .inl fl)), (sy, .inl (cI, 8, .inl fs))]) [0, 1, 2, 3, 4, 5] rfl
    have hDc := hD.sub (ws' := [(mc, .inr (3, [.int res, .int stp, .int pcn, .ref ky, .ref vy, .ref gy, .ref ly, .ref sy, .int hgt, .int ap])), (ky, .inl (cI, 20, .inl fk)), (vy, .inl (cI, 20, .inl fv)), (gy, .inl (cI, 3, .inl fa)), (ly, .inl (cI, 4, .inl fl)), (sy, .inl (cI, 8, .inl fs))]) [0, 1, 2, 3, 4, 5] (by decide) rfl
    have hFc := va_free (wc := [(mc, .inr (3, [.int res, .int stp, .int pcn, .ref ky, .ref vy, .ref gy, .ref ly, .ref sy, .int hgt, .int ap])), (ky, .inl (cI, 20, .inl fk)), (vy, .inl (cI, 20, .inl fv)), (gy, .inl (cI, 3, .inl fa)), (ly, .inl (cI, 4, .inl fl)), (sy, .inl (cI, 8, .inl fs))]) hD hS hA [0, 1, 2, 3, 4, 5] rfl
    refine va_calli (va_runV (As := []) (rest := []) ⟨hx, hb, hml, hown, hts⟩ (c_Machine_pop l D cI cZ tN tG s.heap.size mc ky vy gy ly sy res stp pcn fk fv fa fl fs hgt ap) (cwV 0 hts (gd4 k_270 k_272 k_7 k_21 k_273) rfl rfl rfl (by decide +kernel) ⟨Nat.le_of_ble_eq_true rfl, Nat.le_of_ble_eq_true rfl⟩) ⟨MZ_blind, va_recv (q0 := 0) (ci := 3) hE.1 hP rfl rfl, mz_pre hE hZ hS hPc hDc hFc⟩ rfl rfl hl.1 rfl (lv_room (Nat.le_of_ble_eq_true rfl)) d_Machine_move_98 ⟨Nat.zero_le _, Nat.zero_le _⟩) hS (fun q _ h => hFc q h) hFc (fun r u t H1 locs ht hvm hw hB hz1 hk1 hS => ?_)
    obtain ⟨hP1, hD1⟩ := hB
    rw [ht] at hP1
    subst hw
    obtain ⟨hP, hD⟩ := va_join (wr := []) (w1 := [(mc, .inr (3, [.int res, .int stp, .int pcn, .ref ky, .ref vy, .ref gy, .ref ly, .ref sy, .int (hgt - 1), .int ap])), (ky, .inl (cI, 20, .inl fk)), (vy, .inl (cI, 20, .inl fv)), (gy, .inl (cI, 3, .inl fa)), (ly, .inl (cI, 4, .inl fl)), (sy, .inl (cI, 8, .inl fs))]) hP hD [0, 1, 2, 3, 4, 5] [] rfl rfl (by decide) (by decide) hk1 hFc hP1 hD1
    generalize H1 = H at hP hS ⊢
    have hP : va_P D classes [(mc, .inr (3, [.int res, .int stp, .int pcn, .ref ky, .ref vy, .ref gy, .ref ly, .ref sy, .int (hgt - 1), .int ap])), (ky, .inl (cI, 20, .inl fk)), (vy, .inl (cI, 20, .inl fv)), (gy, .inl (cI, 3, .inl fa)), (ly, .inl (cI, 4, .inl fl)), (sy, .inl (cI, 8, .inl fs))] H := hP
    have hD : va_D A [(mc, .inr (3, [.int res, .int stp, .int pcn, .ref ky, .ref vy, .ref gy, .ref ly, .ref sy, .int (hgt - 1), .int ap])), (ky, .inl (cI, 20, .inl fk)), (vy, .inl (cI, 20, .inl fv)), (gy, .inl (cI, 3, .inl fa)), (ly, .inl (cI, 4, .inl fl)), (sy, .inl (cI, 8, .inl fs))] := hD
    refine lv_pop hx hb d_Machine_move_101 rfl ?_
    refine lv_goto (tgt := 174) hx hb d_Machine_move_102 (by decide) ?_
    refine W.vret hx hb hr (fun t ht hW => ⟨⟨(res, stp, pcn, fk, fv, fa, fl, fs, (hgt - 1), ap), rfl, ?_, ?_⟩, hS.F ht⟩) hS.2.2 d_Machine_move_174
    · rfl
    · exact ⟨by rw [ht]; exact hP.sub [0, 1, 2, 3, 4, 5] rfl, hD.sub [0, 1, 2, 3, 4, 5] (by decide) rfl⟩
set_option maxHeartbeats 4000000 in
set_option maxRecDepth 100000 in
theorem c_Machine_doOne (l : Launch) (D : va_G) (cI cZ : ClassId) (tN tG : Nat) (hz : Nat) (mc ky vy gy ly sy : Nat) (res stp pcn : Int32) (fk fv fa fl fs : Nat → Int32) (hgt ap : Int32) (op n kd : Int32) : Met l y_Machine_doOne w_Machine_doOne (rmk 3) (va_Pc [.ref mc, .int op, .int n, .int kd] (MZ D cI cZ tN tG [(mc, .inr (3, [.int res, .int stp, .int pcn, .ref ky, .ref vy, .ref gy, .ref ly, .ref sy, .int hgt, .int ap])), (ky, .inl (cI, 20, .inl fk)), (vy, .inl (cI, 20, .inl fv)), (gy, .inl (cI, 3, .inl fa)), (ly, .inl (cI, 4, .inl fl)), (sy, .inl (cI, 8, .inl fs))] hz)) (va_Qi (fun (r : Int32) (u : MS) => (r, u) = m_one op n kd (res, stp, pcn, fk, fv, fa, fl, fs, hgt, ap)) (fun u t => ME D (va_A [(mc, .inr (3, [.int res, .int stp, .int pcn, .ref ky, .ref vy, .ref gy, .ref ly, .ref sy, .int hgt, .int ap])), (ky, .inl (cI, 20, .inl fk)), (vy, .inl (cI, 20, .inl fv)), (gy, .inl (cI, 3, .inl fa)), (ly, .inl (cI, 4, .inl fl)), (sy, .inl (cI, 8, .inl fs))] hz) [(mc, .inr (3, [.int u.1, .int u.2.1, .int u.2.2.1, .ref ky, .ref vy, .ref gy, .ref ly, .ref sy, .int u.2.2.2.2.2.2.2.2.1, .int u.2.2.2.2.2.2.2.2.2])), (ky, .inl (cI, 20, .inl u.2.2.2.1)), (vy, .inl (cI, 20, .inl u.2.2.2.2.1)), (gy, .inl (cI, 3, .inl u.2.2.2.2.2.1)), (ly, .inl (cI, 4, .inl u.2.2.2.2.2.2.1)), (sy, .inl (cI, 8, .inl u.2.2.2.2.2.2.2.1))] t) (va_A [(mc, .inr (3, [.int res, .int stp, .int pcn, .ref ky, .ref vy, .ref gy, .ref ly, .ref sy, .int hgt, .int ap])), (ky, .inl (cI, 20, .inl fk)), (vy, .inl (cI, 20, .inl fv)), (gy, .inl (cI, 3, .inl fa)), (ly, .inl (cI, 4, .inl fl)), (sy, .inl (cI, 8, .inl fs))] hz)) 0 0 (va_A [(mc, .inr (3, [.int res, .int stp, .int pcn, .ref ky, .ref vy, .ref gy, .ref ly, .ref sy, .int hgt, .int ap])), (ky, .inl (cI, 20, .inl fk)), (vy, .inl (cI, 20, .inl fv)), (gy, .inl (cI, 3, .inl fa)), (ly, .inl (cI, 4, .inl fl)), (sy, .inl (cI, 8, .inl fs))] hz) := by
  refine Met.ofW (cc := b_Machine_doOne) (maxL := 4) (ret := (some .int)) (by decide) rfl ?_
  intro p e s m args below meth c s₁ B hml hv
  obtain ⟨rfl, hsz, hP, hE, hD0, hZ⟩ := hv
  have hx := B.exec
  have hb := B.bytes
  have hr := B.returns
  have hts : ∀ w ∈ gW, w.before _ s = true := fun w h => atoms_spec (ws := w_Machine_doOne) B.pre w (List.mem_cons_of_mem _ h)
  have hown : s.vm.findClass R_Machine = some m.cls := findClass_of_methodNamed B.named
  have hlocks := B.notSynchronized
  subst hsz
  have hD := hD0.self (sz := s.heap.size)
  have hA : ∀ q : Nat, s.heap.size ≤ q → va_A [(mc, .inr (3, [.int res, .int stp, .int pcn, .ref ky, .ref vy, .ref gy, .ref ly, .ref sy, .int hgt, .int ap])), (ky, .inl (cI, 20, .inl fk)), (vy, .inl (cI, 20, .inl fv)), (gy, .inl (cI, 3, .inl fa)), (ly, .inl (cI, 4, .inl fl)), (sy, .inl (cI, 8, .inl fs))] s.heap.size q := fun q h => Or.inr h
  generalize va_A [(mc, .inr (3, [.int res, .int stp, .int pcn, .ref ky, .ref vy, .ref gy, .ref ly, .ref sy, .int hgt, .int ap])), (ky, .inl (cI, 20, .inl fk)), (vy, .inl (cI, 20, .inl fv)), (gy, .inl (cI, 3, .inl fa)), (ly, .inl (cI, 4, .inl fl)), (sy, .inl (cI, 8, .inl fs))] s.heap.size = A at hD hA hZ ⊢
  have hS : va_S A s.heap s.heap [] := va_S.rf
  have hP : va_P D classes [(mc, .inr (3, [.int res, .int stp, .int pcn, .ref ky, .ref vy, .ref gy, .ref ly, .ref sy, .int hgt, .int ap])), (ky, .inl (cI, 20, .inl fk)), (vy, .inl (cI, 20, .inl fv)), (gy, .inl (cI, 3, .inl fa)), (ly, .inl (cI, 4, .inl fl)), (sy, .inl (cI, 8, .inl fs))] s.heap := hP
  have hD : va_D A [(mc, .inr (3, [.int res, .int stp, .int pcn, .ref ky, .ref vy, .ref gy, .ref ly, .ref sy, .int hgt, .int ap])), (ky, .inl (cI, 20, .inl fk)), (vy, .inl (cI, 20, .inl fv)), (gy, .inl (cI, 3, .inl fa)), (ly, .inl (cI, 4, .inl fl)), (sy, .inl (cI, 8, .inl fs))] := hD
  have hl := lv_entry ([.ref mc, .int op, .int n, .int kd]) (n := 4) (Nat.le_of_ble_eq_true rfl)
  rw [lg_entry_eq]
  generalize (lg_sl ([.ref mc, .int op, .int n, .int kd]) ++ List.replicate (4 - (lg_sl ([.ref mc, .int op, .int n, .int kd])).length) Slot.unset).toArray = ls at hl ⊢
  have hl : lv_has ls 4 [(0, .ref mc), (1, .int op), (2, .int n), (3, .int kd)] := hl
  refine lv_aload_n hx hb d_Machine_doOne_0 rfl (lv_at hl 0 rfl) ?_
  refine lv_dup hx hb d_Machine_doOne_1 rfl ?_
  refine va_get (D := D) (ci := 3) (v := .int ap) (C := R_Machine) (T := F_Machine) (N := 10) hx hb hts in_Machine hown hE.1 hP 0 rfl rfl 9 (by decide) (hts _ k_97) (fun _ h9 => h9) rfl d_Machine_doOne_2 ?_
  refine lv_iconst (v := 1) hx hb d_Machine_doOne_5 (by decide) ?_
  refine lv_iadd hx hb d_Machine_doOne_6 ?_
  refine va_put (D := D) (ci := 3) (v := .int (ap + 1)) (ty := .int) (C := R_Machine) (T := F_Machine) (N := 10) hx hb hts in_Machine t_Machine t_Machine_ok n_Machine hown hE.1 hP hD hS 0 rfl rfl 9 (by decide) (hts _ k_97) (fun _ h9 => h9) rfl (by decide +kernel) rfl rfl (Nat.le_of_ble_eq_true rfl) d_Machine_doOne_7 (fun H locs hP hD hS => ?_)
  have hP : va_P D classes [(mc, .inr (3, [.int res, .int stp, .int pcn, .ref ky, .ref vy, .ref gy, .ref ly, .ref sy, .int hgt, .int (ap + 1)])), (ky, .inl (cI, 20, .inl fk)), (vy, .inl (cI, 20, .inl fv)), (gy, .inl (cI, 3, .inl fa)), (ly, .inl (cI, 4, .inl fl)), (sy, .inl (cI, 8, .inl fs))] H := hP
  have hD : va_D A [(mc, .inr (3, [.int res, .int stp, .int pcn, .ref ky, .ref vy, .ref gy, .ref ly, .ref sy, .int hgt, .int (ap + 1)])), (ky, .inl (cI, 20, .inl fk)), (vy, .inl (cI, 20, .inl fv)), (gy, .inl (cI, 3, .inl fa)), (ly, .inl (cI, 4, .inl fl)), (sy, .inl (cI, 8, .inl fs))] := hD
  refine lv_iload_n hx hb d_Machine_doOne_10 rfl (lv_at hl 1 rfl) ?_
  rcases (by omega : (Int32.toInt op < 14 ∨ 18 < Int32.toInt op) ∨ Int32.toInt op = 14 ∨ Int32.toInt op = 15 ∨ Int32.toInt op = 16 ∨ Int32.toInt op = 17 ∨ Int32.toInt op = 18) with h1 | h1 | h1 | h1 | h1 | h1
  · -- default
    refine lv_tableOut (tgt := 90) hx hb d_Machine_doOne_11 h1 (by decide) ?_
    refine lv_aload_n hx hb d_Machine_doOne_90 rfl (lv_at hl 0 rfl) ?_
    refine lv_iload_n hx hb d_Machine_doOne_91 rfl (lv_at hl 1 rfl) ?_
    refine lv_iload_n hx hb d_Machine_doOne_92 rfl (lv_at hl 2 rfl) ?_
    have hPc := hP.sub (ws' := [(mc, .inr (3, [.int res, .int stp, .int pcn, .ref ky, .ref vy, .ref gy, .ref ly, .ref sy, .int hgt, .int (ap + 1)])), (ky, .inl (cI, 20, .inl fk)), (vy, .inl (cI, 20, .inl fv)), (gy, .inl (cI, 3, .inl fa)), (ly, .inl (cI, 4, .inl fl)), (sy, .inl (cI, 8, .inl fs))]) [0, 1, 2, 3, 4, 5] rfl
    have hDc := hD.sub (ws' := [(mc, .inr (3, [.int res, .int stp, .int pcn, .ref ky, .ref vy, .ref gy, .ref ly, .ref sy, .int hgt, .int (ap + 1)])), (ky, .inl (cI, 20, .inl fk)), (vy, .inl (cI, 20, .inl fv)), (gy, .inl (cI, 3, .inl fa)), (ly, .inl (cI, 4, .inl fl)), (sy, .inl (cI, 8, .inl fs))]) [0, 1, 2, 3, 4, 5] (by decide) rfl
    have hFc := va_free (wc := [(mc, .inr (3, [.int res, .int stp, .int pcn, .ref ky, .ref vy, .ref gy, .ref ly, .ref sy, .int hgt, .int (ap + 1)])), (ky, .inl (cI, 20, .inl fk)), (vy, .inl (cI, 20, .inl fv)), (gy, .inl (cI, 3, .inl fa)), (ly, .inl (cI, 4, .inl fl)), (sy, .inl (cI, 8, .inl fs))]) hD hS hA [0, 1, 2, 3, 4, 5] rfl
    refine va_callv (va_runV (As := [.int op, .int n]) (rest := []) ⟨hx, hb, hml, hown, hts⟩ (c_Machine_move l D cI cZ tN tG H.size mc ky vy gy ly sy res stp pcn fk fv fa fl fs hgt (ap + 1) op n) (cwV 2 hts (gd4 k_279 k_281 k_9 k_21 k_282) rfl rfl rfl (by decide +kernel) ⟨Nat.le_of_ble_eq_true rfl, Nat.le_of_ble_eq_true rfl⟩) ⟨MZ_blind, va_recv (q0 := 0) (ci := 3) hE.1 hP rfl rfl, mz_pre hE hZ hS hPc hDc hFc⟩ rfl rfl hl.1 rfl (lv_room (Nat.le_of_ble_eq_true rfl)) d_Machine_doOne_93 ⟨Nat.zero_le _, Nat.zero_le _⟩) hS (fun q _ h => hFc q h) hFc (fun u t H1 locs ht hvm hw hB hz1 hk1 hS => ?_)
    obtain ⟨hP1, hD1⟩ := hB
    rw [ht] at hP1
    subst hw
    obtain ⟨hP, hD⟩ := va_join (wr := []) (w1 := [(mc, .inr (3, [.int ((m_move op n (res, stp, pcn, fk, fv, fa, fl, fs, hgt, (ap + 1))).1), .int ((m_move op n (res, stp, pcn, fk, fv, fa, fl, fs, hgt, (ap + 1))).2.1), .int ((m_move op n (res, stp, pcn, fk, fv, fa, fl, fs, hgt, (ap + 1))).2.2.1), .ref ky, .ref vy, .ref gy, .ref ly, .ref sy, .int ((m_move op n (res, stp, pcn, fk, fv, fa, fl, fs, hgt, (ap + 1))).2.2.2.2.2.2.2.2.1), .int ((m_move op n (res, stp, pcn, fk, fv, fa, fl, fs, hgt, (ap + 1))).2.2.2.2.2.2.2.2.2)])), (ky, .inl (cI, 20, .inl ((m_move op n (res, stp, pcn, fk, fv, fa, fl, fs, hgt, (ap + 1))).2.2.2.1))), (vy, .inl (cI, 20, .inl ((m_move op n (res, stp, pcn, fk, fv, fa, fl, fs, hgt, (ap + 1))).2.2.2.2.1))), (gy, .inl (cI, 3, .inl ((m_move op n (res, stp, pcn, fk, fv, fa, fl, fs, hgt, (ap + 1))).2.2.2.2.2.1))), (ly, .inl (cI, 4, .inl ((m_move op n (res, stp, pcn, fk, fv, fa, fl, fs, hgt, (ap + 1))).2.2.2.2.2.2.1))), (sy, .inl (cI, 8, .inl ((m_move op n (res, stp, pcn, fk, fv, fa, fl, fs, hgt, (ap + 1))).2.2.2.2.2.2.2.1)))]) hP hD [0, 1, 2, 3, 4, 5] [] rfl rfl (by decide) (by decide) hk1 hFc hP1 hD1
    generalize H1 = H at hP hS ⊢
    have hP : va_P D classes [(mc, .inr (3, [.int ((m_move op n (res, stp, pcn, fk, fv, fa, fl, fs, hgt, (ap + 1))).1), .int ((m_move op n (res, stp, pcn, fk, fv, fa, fl, fs, hgt, (ap + 1))).2.1), .int ((m_move op n (res, stp, pcn, fk, fv, fa, fl, fs, hgt, (ap + 1))).2.2.1), .ref ky, .ref vy, .ref gy, .ref ly, .ref sy, .int ((m_move op n (res, stp, pcn, fk, fv, fa, fl, fs, hgt, (ap + 1))).2.2.2.2.2.2.2.2.1), .int ((m_move op n (res, stp, pcn, fk, fv, fa, fl, fs, hgt, (ap + 1))).2.2.2.2.2.2.2.2.2)])), (ky, .inl (cI, 20, .inl ((m_move op n (res, stp, pcn, fk, fv, fa, fl, fs, hgt, (ap + 1))).2.2.2.1))), (vy, .inl (cI, 20, .inl ((m_move op n (res, stp, pcn, fk, fv, fa, fl, fs, hgt, (ap + 1))).2.2.2.2.1))), (gy, .inl (cI, 3, .inl ((m_move op n (res, stp, pcn, fk, fv, fa, fl, fs, hgt, (ap + 1))).2.2.2.2.2.1))), (ly, .inl (cI, 4, .inl ((m_move op n (res, stp, pcn, fk, fv, fa, fl, fs, hgt, (ap + 1))).2.2.2.2.2.2.1))), (sy, .inl (cI, 8, .inl ((m_move op n (res, stp, pcn, fk, fv, fa, fl, fs, hgt, (ap + 1))).2.2.2.2.2.2.2.1)))] H := hP
    have hD : va_D A [(mc, .inr (3, [.int ((m_move op n (res, stp, pcn, fk, fv, fa, fl, fs, hgt, (ap + 1))).1), .int ((m_move op n (res, stp, pcn, fk, fv, fa, fl, fs, hgt, (ap + 1))).2.1), .int ((m_move op n (res, stp, pcn, fk, fv, fa, fl, fs, hgt, (ap + 1))).2.2.1), .ref ky, .ref vy, .ref gy, .ref ly, .ref sy, .int ((m_move op n (res, stp, pcn, fk, fv, fa, fl, fs, hgt, (ap + 1))).2.2.2.2.2.2.2.2.1), .int ((m_move op n (res, stp, pcn, fk, fv, fa, fl, fs, hgt, (ap + 1))).2.2.2.2.2.2.2.2.2)])), (ky, .inl (cI, 20, .inl ((m_move op n (res, stp, pcn, fk, fv, fa, fl, fs, hgt, (ap + 1))).2.2.2.1))), (vy, .inl (cI, 20, .inl ((m_move op n (res, stp, pcn, fk, fv, fa, fl, fs, hgt, (ap + 1))).2.2.2.2.1))), (gy, .inl (cI, 3, .inl ((m_move op n (res, stp, pcn, fk, fv, fa, fl, fs, hgt, (ap + 1))).2.2.2.2.2.1))), (ly, .inl (cI, 4, .inl ((m_move op n (res, stp, pcn, fk, fv, fa, fl, fs, hgt, (ap + 1))).2.2.2.2.2.2.1))), (sy, .inl (cI, 8, .inl ((m_move op n (res, stp, pcn, fk, fv, fa, fl, fs, hgt, (ap + 1))).2.2.2.2.2.2.2.1)))] := hD
    refine lv_iconst (v := 3) hx hb d_Machine_doOne_96 (by decide) ?_
    refine W.iret hx hb hr (fun t ht hW => ⟨⟨3, (m_move op n (res, stp, pcn, fk, fv, fa, fl, fs, hgt, (ap + 1))), rfl, ?_, ?_⟩, hS.F ht⟩) hS.2.2 d_Machine_doOne_97
    · (have g14 := sw_ne (k := 14) h1 (by decide); have g15 := sw_ne (k := 15) h1 (by decide); have g16 := sw_ne (k := 16) h1 (by decide); have g17 := sw_ne (k := 17) h1 (by decide); have g18 := sw_ne (k := 18) h1 (by decide); simp only [m_one, g14, g15, g16, g17, g18, if_true, if_false, eq_self, not_true_eq_false, not_false_eq_true, ne_eq])
    · exact ⟨by rw [ht]; exact hP.sub [0, 1, 2, 3, 4, 5] rfl, hD.sub [0, 1, 2, 3, 4, 5] (by decide) rfl⟩
  · -- case 14
    have h1 : op = 14 := Int32.toInt_inj.mp (by rw [h1]; decide)
    subst h1
    refine lv_tableIn (tgt := 44) (off := 33) hx hb d_Machine_doOne_11 (by decide) (by decide) (by decide +kernel) (by decide) ?_
    refine lv_aload_n hx hb d_Machine_doOne_44 rfl (lv_at hl 0 rfl) ?_
    refine lv_iload_n hx hb d_Machine_doOne_45 rfl (lv_at hl 2 rfl) ?_
    refine va_put (D := D) (ci := 3) (v := .int n) (ty := .int) (C := R_Machine) (T := F_Machine) (N := 10) hx hb hts in_Machine t_Machine t_Machine_ok n_Machine hown hE.1 hP hD hS 0 rfl rfl 9 (by decide) (hts _ k_97) (fun _ h9 => h9) rfl (by decide +kernel) rfl rfl (Nat.le_of_ble_eq_true rfl) d_Machine_doOne_46 (fun H locs hP hD hS => ?_)
    have hP : va_P D classes [(mc, .inr (3, [.int res, .int stp, .int pcn, .ref ky, .ref vy, .ref gy, .ref ly, .ref sy, .int hgt, .int n])), (ky, .inl (cI, 20, .inl fk)), (vy, .inl (cI, 20, .inl fv)), (gy, .inl (cI, 3, .inl fa)), (ly, .inl (cI, 4, .inl fl)), (sy, .inl (cI, 8, .inl fs))] H := hP
    have hD : va_D A [(mc, .inr (3, [.int res, .int stp, .int pcn, .ref ky, .ref vy, .ref gy, .ref ly, .ref sy, .int hgt, .int n])), (ky, .inl (cI, 20, .inl fk)), (vy, .inl (cI, 20, .inl fv)), (gy, .inl (cI, 3, .inl fa)), (ly, .inl (cI, 4, .inl fl)), (sy, .inl (cI, 8, .inl fs))] := hD
    refine lv_iconst (v := 3) hx hb d_Machine_doOne_49 (by decide) ?_
    refine W.iret hx hb hr (fun t ht hW => ⟨⟨3, (res, stp, pcn, fk, fv, fa, fl, fs, hgt, n), rfl, ?_, ?_⟩, hS.F ht⟩) hS.2.2 d_Machine_doOne_50
    · rfl
    · exact ⟨by rw [ht]; exact hP.sub [0, 1, 2, 3, 4, 5] rfl, hD.sub [0, 1, 2, 3, 4, 5] (by decide) rfl⟩
  · -- case 15
    have h1 : op = 15 := Int32.toInt_inj.mp (by rw [h1]; decide)
    subst h1
    refine lv_tableIn (tgt := 51) (off := 40) hx hb d_Machine_doOne_11 (by decide) (by decide) (by decide +kernel) (by decide) ?_
    refine lv_aload_n hx hb d_Machine_doOne_51 rfl (lv_at hl 0 rfl) ?_
    have hPc := hP.sub (ws' := [(mc, .inr (3, [.int res, .int stp, .int pcn, .ref ky, .ref vy, .ref gy, .ref ly, .ref sy, .int hgt, .int (ap + 1)])), (ky, .inl (cI, 20, .inl fk)), (vy, .inl (cI, 20, .inl fv)), (gy, .inl (cI, 3, .inl fa)), (ly, .inl (cI, 4, .inl fl)), (sy, .inl (cI, 8, .inl fs))]) [0, 1, 2, 3, 4, 5] rfl
    have hDc := hD.sub (ws' := [(mc, .inr (3, [.int res, .int stp, .int pcn, .ref ky, .ref vy, .ref gy, .ref ly, .ref sy, .int hgt, .int (ap + 1)])), (ky, .inl (cI, 20, .inl fk)), (vy, .inl (cI, 20, .inl fv)), (gy, .inl (cI, 3, .inl fa)), (ly, .inl (cI, 4, .inl fl)), (sy, .inl (cI, 8, .inl fs))]) [0, 1, 2, 3, 4, 5] (by decide) rfl
    have hFc := va_free (wc := [(mc, .inr (3, [.int res, .int stp, .int pcn, .ref ky, .ref vy, .ref gy, .ref ly, .ref sy, .int hgt, .int (ap + 1)])), (ky, .inl (cI, 20, .inl fk)), (vy, .inl (cI, 20, .inl fv)), (gy, .inl (cI, 3, .inl fa)), (ly, .inl (cI, 4, .inl fl)), (sy, .inl (cI, 8, .inl fs))]) hD hS hA [0, 1, 2, 3, 4, 5] rfl
    refine va_calli (va_runV (As := []) (rest := []) ⟨hx, hb, hml, hown, hts⟩ (c_Machine_pop l D cI cZ tN tG H.size mc ky vy gy ly sy res stp pcn fk fv fa fl fs hgt (ap + 1)) (cwV 0 hts (gd4 k_270 k_272 k_7 k_21 k_273) rfl rfl rfl (by decide +kernel) ⟨Nat.le_of_ble_eq_true rfl, Nat.le_of_ble_eq_true rfl⟩) ⟨MZ_blind, va_recv (q0 := 0) (ci := 3) hE.1 hP rfl rfl, mz_pre hE hZ hS hPc hDc hFc⟩ rfl rfl hl.1 rfl (lv_room (Nat.le_of_ble_eq_true rfl)) d_Machine_doOne_52 ⟨Nat.zero_le _, Nat.zero_le _⟩) hS (fun q _ h => hFc q h) hFc (fun r u t H1 locs ht hvm hw hB hz1 hk1 hS => ?_)
    obtain ⟨hP1, hD1⟩ := hB
    rw [ht] at hP1
    subst hw
    obtain ⟨hP, hD⟩ := va_join (wr := []) (w1 := [(mc, .inr (3, [.int res, .int stp, .int pcn, .ref ky, .ref vy, .ref gy, .ref ly, .ref sy, .int (hgt - 1), .int (ap + 1)])), (ky, .inl (cI, 20, .inl fk)), (vy, .inl (cI, 20, .inl fv)), (gy, .inl (cI, 3, .inl fa)), (ly, .inl (cI, 4, .inl fl)), (sy, .inl (cI, 8, .inl fs))]) hP hD [0, 1, 2, 3, 4, 5] [] rfl rfl (by decide) (by decide) hk1 hFc hP1 hD1
    generalize H1 = H at hP hS ⊢
    have hP : va_P D classes [(mc, .inr (3, [.int res, .int stp, .int pcn, .ref ky, .ref vy, .ref gy, .ref ly, .ref sy, .int (hgt - 1), .int (ap + 1)])), (ky, .inl (cI, 20, .inl fk)), (vy, .inl (cI, 20, .inl fv)), (gy, .inl (cI, 3, .inl fa)), (ly, .inl (cI, 4, .inl fl)), (sy, .inl (cI, 8, .inl fs))] H := hP
    have hD : va_D A [(mc, .inr (3, [.int res, .int stp, .int pcn, .ref ky, .ref vy, .ref gy, .ref ly, .ref sy, .int (hgt - 1), .int (ap + 1)])), (ky, .inl (cI, 20, .inl fk)), (vy, .inl (cI, 20, .inl fv)), (gy, .inl (cI, 3, .inl fa)), (ly, .inl (cI, 4, .inl fl)), (sy, .inl (cI, 8, .inl fs))] := hD
    refine lv_if_ne (tgt := 63) hx hb d_Machine_doOne_55 (by decide) (fun h2 => ?_) (fun h2 => ?_)
    · -- ¬ (rd fs 8 (hgt - 1)) = 0
      refine lv_iconst (v := 3) hx hb d_Machine_doOne_63 (by decide) ?_
      refine W.iret hx hb hr (fun t ht hW => ⟨⟨3, (res, stp, pcn, fk, fv, fa, fl, fs, (hgt - 1), (ap + 1)), rfl, ?_, ?_⟩, hS.F ht⟩) hS.2.2 d_Machine_doOne_64
      · (rw [m1_15]; simp only [h2, if_true, if_false, eq_self, not_true_eq_false, not_false_eq_true, ne_eq])
      · exact ⟨by rw [ht]; exact hP.sub [0, 1, 2, 3, 4, 5] rfl, hD.sub [0, 1, 2, 3, 4, 5] (by decide) rfl⟩
    · -- (rd fs 8 (hgt - 1)) = 0
      refine lv_aload_n hx hb d_Machine_doOne_58 rfl (lv_at hl 0 rfl) ?_
      refine lv_iload_n hx hb d_Machine_doOne_59 rfl (lv_at hl 2 rfl) ?_
      refine va_put (D := D) (ci := 3) (v := .int n) (ty := .int) (C := R_Machine) (T := F_Machine) (N := 10) hx hb hts in_Machine t_Machine t_Machine_ok n_Machine hown hE.1 hP hD hS 0 rfl rfl 9 (by decide) (hts _ k_97) (fun _ h9 => h9) rfl (by decide +kernel) rfl rfl (Nat.le_of_ble_eq_true rfl) d_Machine_doOne_60 (fun H locs hP hD hS => ?_)
      have hP : va_P D classes [(mc, .inr (3, [.int res, .int stp, .int pcn, .ref ky, .ref vy, .ref gy, .ref ly, .ref sy, .int (hgt - 1), .int n])), (ky, .inl (cI, 20, .inl fk)), (vy, .inl (cI, 20, .inl fv)), (gy, .inl (cI, 3, .inl fa)), (ly, .inl (cI, 4, .inl fl)), (sy, .inl (cI, 8, .inl fs))] H := hP
      have hD : va_D A [(mc, .inr (3, [.int res, .int stp, .int pcn, .ref ky, .ref vy, .ref gy, .ref ly, .ref sy, .int (hgt - 1), .int n])), (ky, .inl (cI, 20, .inl fk)), (vy, .inl (cI, 20, .inl fv)), (gy, .inl (cI, 3, .inl fa)), (ly, .inl (cI, 4, .inl fl)), (sy, .inl (cI, 8, .inl fs))] := hD
      refine lv_iconst (v := 3) hx hb d_Machine_doOne_63 (by decide) ?_
      refine W.iret hx hb hr (fun t ht hW => ⟨⟨3, (res, stp, pcn, fk, fv, fa, fl, fs, (hgt - 1), n), rfl, ?_, ?_⟩, hS.F ht⟩) hS.2.2 d_Machine_doOne_64
      · (rw [m1_15]; simp only [h2, if_true, if_false, eq_self, not_true_eq_false, not_false_eq_true, ne_eq])
      · exact ⟨by rw [ht]; exact hP.sub [0, 1, 2, 3, 4, 5] rfl, hD.sub [0, 1, 2, 3, 4, 5] (by decide) rfl⟩
  · -- case 16
    have h1 : op = 16 := Int32.toInt_inj.mp (by rw [h1]; decide)
    subst h1
    refine lv_tableIn (tgt := 65) (off := 54) hx hb d_Machine_doOne_11 (by decide) (by decide) (by decide +kernel) (by decide) ?_
    refine lv_aload_n hx hb d_Machine_doOne_65 rfl (lv_at hl 0 rfl) ?_
    have hPc := hP.sub (ws' := [(mc, .inr (3, [.int res, .int stp, .int pcn, .ref ky, .ref vy, .ref gy, .ref ly, .ref sy, .int hgt, .int (ap + 1)])), (ky, .inl (cI, 20, .inl fk)), (vy, .inl (cI, 20, .inl fv)), (gy, .inl (cI, 3, .inl fa)), (ly, .inl (cI, 4, .inl fl)), (sy, .inl (cI, 8, .inl fs))]) [0, 1, 2, 3, 4, 5] rfl
    have hDc := hD.sub (ws' := [(mc, .inr (3, [.int res, .int stp, .int pcn, .ref ky, .ref vy, .ref gy, .ref ly, .ref sy, .int hgt, .int (ap + 1)])), (ky, .inl (cI, 20, .inl fk)), (vy, .inl (cI, 20, .inl fv)), (gy, .inl (cI, 3, .inl fa)), (ly, .inl (cI, 4, .inl fl)), (sy, .inl (cI, 8, .inl fs))]) [0, 1, 2, 3, 4, 5] (by decide) rfl
    have hFc := va_free (wc := [(mc, .inr (3, [.int res, .int stp, .int pcn, .ref ky, .ref vy, .ref gy, .ref ly, .ref sy, .int hgt, .int (ap + 1)])), (ky, .inl (cI, 20, .inl fk)), (vy, .inl (cI, 20, .inl fv)), (gy, .inl (cI, 3, .inl fa)), (ly, .inl (cI, 4, .inl fl)), (sy, .inl (cI, 8, .inl fs))]) hD hS hA [0, 1, 2, 3, 4, 5] rfl
    refine va_calli (va_runV (As := []) (rest := []) ⟨hx, hb, hml, hown, hts⟩ (c_Machine_emit l D cI cZ tN tG H.size mc ky vy gy ly sy res stp pcn fk fv fa fl fs hgt (ap + 1)) (cwV 0 hts (gd4 k_275 k_277 k_8 k_21 k_278) rfl rfl rfl (by decide +kernel) ⟨Nat.le_of_ble_eq_true rfl, Nat.le_of_ble_eq_true rfl⟩) ⟨MZ_blind, va_recv (q0 := 0) (ci := 3) hE.1 hP rfl rfl, mz_pre hE hZ hS hPc hDc hFc⟩ rfl rfl hl.1 rfl (lv_room (Nat.le_of_ble_eq_true rfl)) d_Machine_doOne_66 ⟨Nat.zero_le _, Nat.zero_le _⟩) hS (fun q _ h => hFc q h) hFc (fun r u t H1 locs ht hvm hw hB hz1 hk1 hS => ?_)
    obtain ⟨hP1, hD1⟩ := hB
    rw [ht] at hP1
    have hr1 := congrArg Prod.fst hw
    have hu1 := congrArg Prod.snd hw
    dsimp only at hr1 hu1
    subst hr1
    subst hu1
    obtain ⟨hP, hD⟩ := va_join (wr := []) (w1 := [(mc, .inr (3, [.int ((m_emit (res, stp, pcn, fk, fv, fa, fl, fs, hgt, (ap + 1))).2.1), .int ((m_emit (res, stp, pcn, fk, fv, fa, fl, fs, hgt, (ap + 1))).2.2.1), .int ((m_emit (res, stp, pcn, fk, fv, fa, fl, fs, hgt, (ap + 1))).2.2.2.1), .ref ky, .ref vy, .ref gy, .ref ly, .ref sy, .int ((m_emit (res, stp, pcn, fk, fv, fa, fl, fs, hgt, (ap + 1))).2.2.2.2.2.2.2.2.2.1), .int ((m_emit (res, stp, pcn, fk, fv, fa, fl, fs, hgt, (ap + 1))).2.2.2.2.2.2.2.2.2.2)])), (ky, .inl (cI, 20, .inl ((m_emit (res, stp, pcn, fk, fv, fa, fl, fs, hgt, (ap + 1))).2.2.2.2.1))), (vy, .inl (cI, 20, .inl ((m_emit (res, stp, pcn, fk, fv, fa, fl, fs, hgt, (ap + 1))).2.2.2.2.2.1))), (gy, .inl (cI, 3, .inl ((m_emit (res, stp, pcn, fk, fv, fa, fl, fs, hgt, (ap + 1))).2.2.2.2.2.2.1))), (ly, .inl (cI, 4, .inl ((m_emit (res, stp, pcn, fk, fv, fa, fl, fs, hgt, (ap + 1))).2.2.2.2.2.2.2.1))), (sy, .inl (cI, 8, .inl ((m_emit (res, stp, pcn, fk, fv, fa, fl, fs, hgt, (ap + 1))).2.2.2.2.2.2.2.2.1)))]) hP hD [0, 1, 2, 3, 4, 5] [] rfl rfl (by decide) (by decide) hk1 hFc hP1 hD1
    generalize H1 = H at hP hS ⊢
    have hP : va_P D classes [(mc, .inr (3, [.int ((m_emit (res, stp, pcn, fk, fv, fa, fl, fs, hgt, (ap + 1))).2.1), .int ((m_emit (res, stp, pcn, fk, fv, fa, fl, fs, hgt, (ap + 1))).2.2.1), .int ((m_emit (res, stp, pcn, fk, fv, fa, fl, fs, hgt, (ap + 1))).2.2.2.1), .ref ky, .ref vy, .ref gy, .ref ly, .ref sy, .int ((m_emit (res, stp, pcn, fk, fv, fa, fl, fs, hgt, (ap + 1))).2.2.2.2.2.2.2.2.2.1), .int ((m_emit (res, stp, pcn, fk, fv, fa, fl, fs, hgt, (ap + 1))).2.2.2.2.2.2.2.2.2.2)])), (ky, .inl (cI, 20, .inl ((m_emit (res, stp, pcn, fk, fv, fa, fl, fs, hgt, (ap + 1))).2.2.2.2.1))), (vy, .inl (cI, 20, .inl ((m_emit (res, stp, pcn, fk, fv, fa, fl, fs, hgt, (ap + 1))).2.2.2.2.2.1))), (gy, .inl (cI, 3, .inl ((m_emit (res, stp, pcn, fk, fv, fa, fl, fs, hgt, (ap + 1))).2.2.2.2.2.2.1))), (ly, .inl (cI, 4, .inl ((m_emit (res, stp, pcn, fk, fv, fa, fl, fs, hgt, (ap + 1))).2.2.2.2.2.2.2.1))), (sy, .inl (cI, 8, .inl ((m_emit (res, stp, pcn, fk, fv, fa, fl, fs, hgt, (ap + 1))).2.2.2.2.2.2.2.2.1)))] H := hP
    have hD : va_D A [(mc, .inr (3, [.int ((m_emit (res, stp, pcn, fk, fv, fa, fl, fs, hgt, (ap + 1))).2.1), .int ((m_emit (res, stp, pcn, fk, fv, fa, fl, fs, hgt, (ap + 1))).2.2.1), .int ((m_emit (res, stp, pcn, fk, fv, fa, fl, fs, hgt, (ap + 1))).2.2.2.1), .ref ky, .ref vy, .ref gy, .ref ly, .ref sy, .int ((m_emit (res, stp, pcn, fk, fv, fa, fl, fs, hgt, (ap + 1))).2.2.2.2.2.2.2.2.2.1), .int ((m_emit (res, stp, pcn, fk, fv, fa, fl, fs, hgt, (ap + 1))).2.2.2.2.2.2.2.2.2.2)])), (ky, .inl (cI, 20, .inl ((m_emit (res, stp, pcn, fk, fv, fa, fl, fs, hgt, (ap + 1))).2.2.2.2.1))), (vy, .inl (cI, 20, .inl ((m_emit (res, stp, pcn, fk, fv, fa, fl, fs, hgt, (ap + 1))).2.2.2.2.2.1))), (gy, .inl (cI, 3, .inl ((m_emit (res, stp, pcn, fk, fv, fa, fl, fs, hgt, (ap + 1))).2.2.2.2.2.2.1))), (ly, .inl (cI, 4, .inl ((m_emit (res, stp, pcn, fk, fv, fa, fl, fs, hgt, (ap + 1))).2.2.2.2.2.2.2.1))), (sy, .inl (cI, 8, .inl ((m_emit (res, stp, pcn, fk, fv, fa, fl, fs, hgt, (ap + 1))).2.2.2.2.2.2.2.2.1)))] := hD
    refine W.iret hx hb hr (fun t ht hW => ⟨⟨(m_emit (res, stp, pcn, fk, fv, fa, fl, fs, hgt, (ap + 1))).1, ((m_emit (res, stp, pcn, fk, fv, fa, fl, fs, hgt, (ap + 1))).2.1, (m_emit (res, stp, pcn, fk, fv, fa, fl, fs, hgt, (ap + 1))).2.2.1, (m_emit (res, stp, pcn, fk, fv, fa, fl, fs, hgt, (ap + 1))).2.2.2.1, (m_emit (res, stp, pcn, fk, fv, fa, fl, fs, hgt, (ap + 1))).2.2.2.2.1, (m_emit (res, stp, pcn, fk, fv, fa, fl, fs, hgt, (ap + 1))).2.2.2.2.2.1, (m_emit (res, stp, pcn, fk, fv, fa, fl, fs, hgt, (ap + 1))).2.2.2.2.2.2.1, (m_emit (res, stp, pcn, fk, fv, fa, fl, fs, hgt, (ap + 1))).2.2.2.2.2.2.2.1, (m_emit (res, stp, pcn, fk, fv, fa, fl, fs, hgt, (ap + 1))).2.2.2.2.2.2.2.2.1, (m_emit (res, stp, pcn, fk, fv, fa, fl, fs, hgt, (ap + 1))).2.2.2.2.2.2.2.2.2.1, (m_emit (res, stp, pcn, fk, fv, fa, fl, fs, hgt, (ap + 1))).2.2.2.2.2.2.2.2.2.2), rfl, ?_, ?_⟩, hS.F ht⟩) hS.2.2 d_Machine_doOne_69
    · rfl
    · exact ⟨by rw [ht]; exact hP.sub [0, 1, 2, 3, 4, 5] rfl, hD.sub [0, 1, 2, 3, 4, 5] (by decide) rfl⟩
  · -- case 17
    have h1 : op = 17 := Int32.toInt_inj.mp (by rw [h1]; decide)
    subst h1
    refine lv_tableIn (tgt := 70) (off := 59) hx hb d_Machine_doOne_11 (by decide) (by decide) (by decide +kernel) (by decide) ?_
    refine lv_aload_n hx hb d_Machine_doOne_70 rfl (lv_at hl 0 rfl) ?_
    refine lv_iload_n hx hb d_Machine_doOne_71 rfl (lv_at hl 3 rfl) ?_
    refine lv_if_ne (tgt := 79) hx hb d_Machine_doOne_72 (by decide) (fun h3 => ?_) (fun h3 => ?_)
    · -- ¬ kd = 0
      refine lv_aload_n hx hb d_Machine_doOne_79 rfl (lv_at hl 0 rfl) ?_
      have hPc := hP.sub (ws' := [(mc, .inr (3, [.int res, .int stp, .int pcn, .ref ky, .ref vy, .ref gy, .ref ly, .ref sy, .int hgt, .int (ap + 1)])), (ky, .inl (cI, 20, .inl fk)), (vy, .inl (cI, 20, .inl fv)), (gy, .inl (cI, 3, .inl fa)), (ly, .inl (cI, 4, .inl fl)), (sy, .inl (cI, 8, .inl fs))]) [0, 1, 2, 3, 4, 5] rfl
      have hDc := hD.sub (ws' := [(mc, .inr (3, [.int res, .int stp, .int pcn, .ref ky, .ref vy, .ref gy, .ref ly, .ref sy, .int hgt, .int (ap + 1)])), (ky, .inl (cI, 20, .inl fk)), (vy, .inl (cI, 20, .inl fv)), (gy, .inl (cI, 3, .inl fa)), (ly, .inl (cI, 4, .inl fl)), (sy, .inl (cI, 8, .inl fs))]) [0, 1, 2, 3, 4, 5] (by decide) rfl
      have hFc := va_free (wc := [(mc, .inr (3, [.int res, .int stp, .int pcn, .ref ky, .ref vy, .ref gy, .ref ly, .ref sy, .int hgt, .int (ap + 1)])), (ky, .inl (cI, 20, .inl fk)), (vy, .inl (cI, 20, .inl fv)), (gy, .inl (cI, 3, .inl fa)), (ly, .inl (cI, 4, .inl fl)), (sy, .inl (cI, 8, .inl fs))]) hD hS hA [0, 1, 2, 3, 4, 5] rfl
      refine va_calli (va_runV (As := []) (rest := [.ref mc]) ⟨hx, hb, hml, hown, hts⟩ (c_Machine_pop l D cI cZ tN tG H.size mc ky vy gy ly sy res stp pcn fk fv fa fl fs hgt (ap + 1)) (cwV 0 hts (gd4 k_270 k_272 k_7 k_21 k_273) rfl rfl rfl (by decide +kernel) ⟨Nat.le_of_ble_eq_true rfl, Nat.le_of_ble_eq_true rfl⟩) ⟨MZ_blind, va_recv (q0 := 0) (ci := 3) hE.1 hP rfl rfl, mz_pre hE hZ hS hPc hDc hFc⟩ rfl rfl hl.1 rfl (lv_room (Nat.le_of_ble_eq_true rfl)) d_Machine_doOne_80 ⟨Nat.zero_le _, Nat.zero_le _⟩) hS (fun q _ h => hFc q h) hFc (fun r u t H1 locs ht hvm hw hB hz1 hk1 hS => ?_)
      obtain ⟨hP1, hD1⟩ := hB
      rw [ht] at hP1
      subst hw
      obtain ⟨hP, hD⟩ := va_join (wr := []) (w1 := [(mc, .inr (3, [.int res, .int stp, .int pcn, .ref ky, .ref vy, .ref gy, .ref ly, .ref sy, .int (hgt - 1), .int (ap + 1)])), (ky, .inl (cI, 20, .inl fk)), (vy, .inl (cI, 20, .inl fv)), (gy, .inl (cI, 3, .inl fa)), (ly, .inl (cI, 4, .inl fl)), (sy, .inl (cI, 8, .inl fs))]) hP hD [0, 1, 2, 3, 4, 5] [] rfl rfl (by decide) (by decide) hk1 hFc hP1 hD1
      generalize H1 = H at hP hS ⊢
      have hP : va_P D classes [(mc, .inr (3, [.int res, .int stp, .int pcn, .ref ky, .ref vy, .ref gy, .ref ly, .ref sy, .int (hgt - 1), .int (ap + 1)])), (ky, .inl (cI, 20, .inl fk)), (vy, .inl (cI, 20, .inl fv)), (gy, .inl (cI, 3, .inl fa)), (ly, .inl (cI, 4, .inl fl)), (sy, .inl (cI, 8, .inl fs))] H := hP
      have hD : va_D A [(mc, .inr (3, [.int res, .int stp, .int pcn, .ref ky, .ref vy, .ref gy, .ref ly, .ref sy, .int (hgt - 1), .int (ap + 1)])), (ky, .inl (cI, 20, .inl fk)), (vy, .inl (cI, 20, .inl fv)), (gy, .inl (cI, 3, .inl fa)), (ly, .inl (cI, 4, .inl fl)), (sy, .inl (cI, 8, .inl fs))] := hD
      refine va_put (D := D) (ci := 3) (v := .int (rd fs 8 (hgt - 1))) (ty := .int) (C := R_Machine) (T := F_Machine) (N := 10) hx hb hts in_Machine t_Machine t_Machine_ok n_Machine hown hE.1 hP hD hS 0 rfl rfl 0 (by decide) (hts _ k_83) (fun _ h9 => h9) rfl (by decide +kernel) rfl rfl (Nat.le_of_ble_eq_true rfl) d_Machine_doOne_83 (fun H locs hP hD hS => ?_)
      have hP : va_P D classes [(mc, .inr (3, [.int (rd fs 8 (hgt - 1)), .int stp, .int pcn, .ref ky, .ref vy, .ref gy, .ref ly, .ref sy, .int (hgt - 1), .int (ap + 1)])), (ky, .inl (cI, 20, .inl fk)), (vy, .inl (cI, 20, .inl fv)), (gy, .inl (cI, 3, .inl fa)), (ly, .inl (cI, 4, .inl fl)), (sy, .inl (cI, 8, .inl fs))] H := hP
      have hD : va_D A [(mc, .inr (3, [.int (rd fs 8 (hgt - 1)), .int stp, .int pcn, .ref ky, .ref vy, .ref gy, .ref ly, .ref sy, .int (hgt - 1), .int (ap + 1)])), (ky, .inl (cI, 20, .inl fk)), (vy, .inl (cI, 20, .inl fv)), (gy, .inl (cI, 3, .inl fa)), (ly, .inl (cI, 4, .inl fl)), (sy, .inl (cI, 8, .inl fs))] := hD
      refine lv_iconst (v := 0) hx hb d_Machine_doOne_86 (by decide) ?_
      refine W.iret hx hb hr (fun t ht hW => ⟨⟨0, ((rd fs 8 (hgt - 1)), stp, pcn, fk, fv, fa, fl, fs, (hgt - 1), (ap + 1)), rfl, ?_, ?_⟩, hS.F ht⟩) hS.2.2 d_Machine_doOne_87
      · (rw [m1_17]; simp only [h3, if_true, if_false, eq_self, not_true_eq_false, not_false_eq_true, ne_eq])
      · exact ⟨by rw [ht]; exact hP.sub [0, 1, 2, 3, 4, 5] rfl, hD.sub [0, 1, 2, 3, 4, 5] (by decide) rfl⟩
    · -- kd = 0
      refine lv_iconst (v := 0) hx hb d_Machine_doOne_75 (by decide) ?_
      refine lv_goto (tgt := 83) hx hb d_Machine_doOne_76 (by decide) ?_
      refine va_put (D := D) (ci := 3) (v := .int 0) (ty := .int) (C := R_Machine) (T := F_Machine) (N := 10) hx hb hts in_Machine t_Machine t_Machine_ok n_Machine hown hE.1 hP hD hS 0 rfl rfl 0 (by decide) (hts _ k_83) (fun _ h9 => h9) rfl (by decide +kernel) rfl rfl (Nat.le_of_ble_eq_true rfl) d_Machine_doOne_83 (fun H locs hP hD hS => ?_)
      have hP : va_P D classes [(mc, .inr (3, [.int 0, .int stp, .int pcn, .ref ky, .ref vy, .ref gy, .ref ly, .ref sy, .int hgt, .int (ap + 1)])), (ky, .inl (cI, 20, .inl fk)), (vy, .inl (cI, 20, .inl fv)), (gy, .inl (cI, 3, .inl fa)), (ly, .inl (cI, 4, .inl fl)), (sy, .inl (cI, 8, .inl fs))] H := hP
      have hD : va_D A [(mc, .inr (3, [.int 0, .int stp, .int pcn, .ref ky, .ref vy, .ref gy, .ref ly, .ref sy, .int hgt, .int (ap + 1)])), (ky, .inl (cI, 20, .inl fk)), (vy, .inl (cI, 20, .inl fv)), (gy, .inl (cI, 3, .inl fa)), (ly, .inl (cI, 4, .inl fl)), (sy, .inl (cI, 8, .inl fs))] := hD
      refine lv_iconst (v := 0) hx hb d_Machine_doOne_86 (by decide) ?_
      refine W.iret hx hb hr (fun t ht hW => ⟨⟨0, (0, stp, pcn, fk, fv, fa, fl, fs, hgt, (ap + 1)), rfl, ?_, ?_⟩, hS.F ht⟩) hS.2.2 d_Machine_doOne_87
      · (rw [m1_17]; simp only [h3, if_true, if_false, eq_self, not_true_eq_false, not_false_eq_true, ne_eq])
      · exact ⟨by rw [ht]; exact hP.sub [0, 1, 2, 3, 4, 5] rfl, hD.sub [0, 1, 2, 3, 4, 5] (by decide) rfl⟩
  · -- case 18
    have h1 : op = 18 := Int32.toInt_inj.mp (by rw [h1]; decide)
    subst h1
    refine lv_tableIn (tgt := 88) (off := 77) hx hb d_Machine_doOne_11 (by decide) (by decide) (by decide +kernel) (by decide) ?_
    refine lv_iconst (v := 1) hx hb d_Machine_doOne_88 (by decide) ?_
    refine W.iret hx hb hr (fun t ht hW => ⟨⟨1, (res, stp, pcn, fk, fv, fa, fl, fs, hgt, (ap + 1)), rfl, ?_, ?_⟩, hS.F ht⟩) hS.2.2 d_Machine_doOne_89
    · rfl
    · exact ⟨by rw [ht]; exact hP.sub [0, 1, 2, 3, 4, 5] rfl, hD.sub [0, 1, 2, 3, 4, 5] (by decide) rfl⟩
