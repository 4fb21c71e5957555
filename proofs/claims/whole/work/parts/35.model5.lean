set_option maxHeartbeats 4000000 in
set_option maxRecDepth 100000 in
theorem c_Model_call (l : Launch) (D : va_G) (cI cZ : ClassId) (hz : Nat) (mo mp mq mr mw mt ml mk mv : Nat) (kd : Int32) (n : Nat) (fo fn fR fW fs fl fk fv : Nat → Int32) (em sp rs : Int32) (fa : Nat → Int32) (x y z : Int32) (hk : kd = 0 ∨ kd = 1 ∨ kd = 2 ∨ kd = 3) (hn : n ≤ 64) (hfa : fa 0 = x ∧ fa 1 = y ∧ fa 2 = z) : Met l y_Model_call w_Model_call (rmk 4) (va_Pc [.ref mo, .int x, .int y, .int z] (MY D cI cZ [(mo, .inr (4, [.int kd, .ref mp, .ref mq, .int (nI n), .ref mr, .ref mw, .ref mt, .ref ml, .ref mk, .ref mv, .int em, .int sp, .int rs])), (mp, .inl (cI, 64, .inl fo)), (mq, .inl (cI, 64, .inl fn)), (mr, .inl (cI, 576, .inl fR)), (mw, .inl (cZ, 64, .inl fW)), (mt, .inl (cI, 8, .inl fs)), (ml, .inl (cI, 4, .inl fl)), (mk, .inl (cI, 20, .inl fk)), (mv, .inl (cI, 20, .inl fv))] hz)) (va_Qi (fun (r : Int32) (u : ((Nat → Int32) × (Nat → Int32)) × (Int32 × Int32 × Int32 × (Nat → Int32) × (Nat → Int32) × (Nat → Int32) × (Nat → Int32))) => ∃ rc, ((n = 0 ∧ rc = 64) ∨ (0 < n ∧ ChkR kd (acOf kd) n fo fn rc)) ∧ ((¬ rc = -2 ∧ r = -2 ∧ u.2 = (rs, sp, em, fk, fv, fl, fs)) ∨ (rc = -2 ∧ ∃ (hgt1 ap1 : Int32), m_fin (m_loop kd fo fn 300 3 (0, 0, 0, fk, fv, fa, fun _ => 0, fs, 0, 0)) = (r, (u.2.1, u.2.2.1, u.2.2.2.1, u.2.2.2.2.1, u.2.2.2.2.2.1, fa, u.2.2.2.2.2.2.1, u.2.2.2.2.2.2.2, hgt1, ap1))))) (fun u t => ME D (va_A [(mo, .inr (4, [.int kd, .ref mp, .ref mq, .int (nI n), .ref mr, .ref mw, .ref mt, .ref ml, .ref mk, .ref mv, .int em, .int sp, .int rs])), (mp, .inl (cI, 64, .inl fo)), (mq, .inl (cI, 64, .inl fn)), (mr, .inl (cI, 576, .inl fR)), (mw, .inl (cZ, 64, .inl fW)), (mt, .inl (cI, 8, .inl fs)), (ml, .inl (cI, 4, .inl fl)), (mk, .inl (cI, 20, .inl fk)), (mv, .inl (cI, 20, .inl fv))] hz) [(mo, .inr (4, [.int kd, .ref mp, .ref mq, .int (nI n), .ref mr, .ref mw, .ref mt, .ref ml, .ref mk, .ref mv, .int u.2.2.2.1, .int u.2.2.1, .int u.2.1])), (mp, .inl (cI, 64, .inl fo)), (mq, .inl (cI, 64, .inl fn)), (mr, .inl (cI, 576, .inl u.1.1)), (mw, .inl (cZ, 64, .inl u.1.2)), (mt, .inl (cI, 8, .inl u.2.2.2.2.2.2.2)), (ml, .inl (cI, 4, .inl u.2.2.2.2.2.2.1)), (mk, .inl (cI, 20, .inl u.2.2.2.2.1)), (mv, .inl (cI, 20, .inl u.2.2.2.2.2.1))] t) (va_A [(mo, .inr (4, [.int kd, .ref mp, .ref mq, .int (nI n), .ref mr, .ref mw, .ref mt, .ref ml, .ref mk, .ref mv, .int em, .int sp, .int rs])), (mp, .inl (cI, 64, .inl fo)), (mq, .inl (cI, 64, .inl fn)), (mr, .inl (cI, 576, .inl fR)), (mw, .inl (cZ, 64, .inl fW)), (mt, .inl (cI, 8, .inl fs)), (ml, .inl (cI, 4, .inl fl)), (mk, .inl (cI, 20, .inl fk)), (mv, .inl (cI, 20, .inl fv))] hz)) 0 0 (va_A [(mo, .inr (4, [.int kd, .ref mp, .ref mq, .int (nI n), .ref mr, .ref mw, .ref mt, .ref ml, .ref mk, .ref mv, .int em, .int sp, .int rs])), (mp, .inl (cI, 64, .inl fo)), (mq, .inl (cI, 64, .inl fn)), (mr, .inl (cI, 576, .inl fR)), (mw, .inl (cZ, 64, .inl fW)), (mt, .inl (cI, 8, .inl fs)), (ml, .inl (cI, 4, .inl fl)), (mk, .inl (cI, 20, .inl fk)), (mv, .inl (cI, 20, .inl fv))] hz) := by
  refine Met.ofW (cc := b_Model_call) (maxL := 5) (ret := (some .int)) (by decide) rfl ?_
  intro p e s m args below meth c s₁ B hml hv
  obtain ⟨rfl, hsz, hP, hE, hD0⟩ := hv
  have hx := B.exec
  have hb := B.bytes
  have hr := B.returns
  have hts : ∀ w ∈ gW, w.before _ s = true := fun w h => atoms_spec (ws := w_Model_call) B.pre w (List.mem_cons_of_mem _ h)
  have hown : s.vm.findClass R_Model = some m.cls := findClass_of_methodNamed B.named
  have hlocks := B.notSynchronized
  subst hsz
  have hD := hD0.self (sz := s.heap.size)
  have hA : ∀ q : Nat, s.heap.size ≤ q → va_A [(mo, .inr (4, [.int kd, .ref mp, .ref mq, .int (nI n), .ref mr, .ref mw, .ref mt, .ref ml, .ref mk, .ref mv, .int em, .int sp, .int rs])), (mp, .inl (cI, 64, .inl fo)), (mq, .inl (cI, 64, .inl fn)), (mr, .inl (cI, 576, .inl fR)), (mw, .inl (cZ, 64, .inl fW)), (mt, .inl (cI, 8, .inl fs)), (ml, .inl (cI, 4, .inl fl)), (mk, .inl (cI, 20, .inl fk)), (mv, .inl (cI, 20, .inl fv))] s.heap.size q := fun q h => Or.inr h
  generalize va_A [(mo, .inr (4, [.int kd, .ref mp, .ref mq, .int (nI n), .ref mr, .ref mw, .ref mt, .ref ml, .ref mk, .ref mv, .int em, .int sp, .int rs])), (mp, .inl (cI, 64, .inl fo)), (mq, .inl (cI, 64, .inl fn)), (mr, .inl (cI, 576, .inl fR)), (mw, .inl (cZ, 64, .inl fW)), (mt, .inl (cI, 8, .inl fs)), (ml, .inl (cI, 4, .inl fl)), (mk, .inl (cI, 20, .inl fk)), (mv, .inl (cI, 20, .inl fv))] s.heap.size = A at hD hA ⊢
  have hS : va_S A s.heap s.heap [] := va_S.rf
  have hP : va_P D classes [(mo, .inr (4, [.int kd, .ref mp, .ref mq, .int (nI n), .ref mr, .ref mw, .ref mt, .ref ml, .ref mk, .ref mv, .int em, .int sp, .int rs])), (mp, .inl (cI, 64, .inl fo)), (mq, .inl (cI, 64, .inl fn)), (mr, .inl (cI, 576, .inl fR)), (mw, .inl (cZ, 64, .inl fW)), (mt, .inl (cI, 8, .inl fs)), (ml, .inl (cI, 4, .inl fl)), (mk, .inl (cI, 20, .inl fk)), (mv, .inl (cI, 20, .inl fv))] s.heap := hP
  have hD : va_D A [(mo, .inr (4, [.int kd, .ref mp, .ref mq, .int (nI n), .ref mr, .ref mw, .ref mt, .ref ml, .ref mk, .ref mv, .int em, .int sp, .int rs])), (mp, .inl (cI, 64, .inl fo)), (mq, .inl (cI, 64, .inl fn)), (mr, .inl (cI, 576, .inl fR)), (mw, .inl (cZ, 64, .inl fW)), (mt, .inl (cI, 8, .inl fs)), (ml, .inl (cI, 4, .inl fl)), (mk, .inl (cI, 20, .inl fk)), (mv, .inl (cI, 20, .inl fv))] := hD
  have hl := lv_entry ([.ref mo, .int x, .int y, .int z]) (n := 5) (Nat.le_of_ble_eq_true rfl)
  rw [lg_entry_eq]
  generalize (lg_sl ([.ref mo, .int x, .int y, .int z]) ++ List.replicate (5 - (lg_sl ([.ref mo, .int x, .int y, .int z])).length) Slot.unset).toArray = ls at hl ⊢
  have hl : lv_has ls 5 [(0, .ref mo), (1, .int x), (2, .int y), (3, .int z)] := hl
  refine lv_aload_n hx hb d_Model_call_0 rfl (lv_at hl 0 rfl) ?_
  have hPc := hP.sub (ws' := [(mo, .inr (4, [.int kd, .ref mp, .ref mq, .int (nI n), .ref mr, .ref mw, .ref mt, .ref ml, .ref mk, .ref mv, .int em, .int sp, .int rs])), (mp, .inl (cI, 64, .inl fo)), (mq, .inl (cI, 64, .inl fn)), (mr, .inl (cI, 576, .inl fR)), (mw, .inl (cZ, 64, .inl fW)), (mt, .inl (cI, 8, .inl fs)), (ml, .inl (cI, 4, .inl fl)), (mk, .inl (cI, 20, .inl fk)), (mv, .inl (cI, 20, .inl fv))]) [0, 1, 2, 3, 4, 5, 6, 7, 8] rfl
  have hDc := hD.sub (ws' := [(mo, .inr (4, [.int kd, .ref mp, .ref mq, .int (nI n), .ref mr, .ref mw, .ref mt, .ref ml, .ref mk, .ref mv, .int em, .int sp, .int rs])), (mp, .inl (cI, 64, .inl fo)), (mq, .inl (cI, 64, .inl fn)), (mr, .inl (cI, 576, .inl fR)), (mw, .inl (cZ, 64, .inl fW)), (mt, .inl (cI, 8, .inl fs)), (ml, .inl (cI, 4, .inl fl)), (mk, .inl (cI, 20, .inl fk)), (mv, .inl (cI, 20, .inl fv))]) [0, 1, 2, 3, 4, 5, 6, 7, 8] (by decide) rfl
  have hFc := va_free (wc := [(mo, .inr (4, [.int kd, .ref mp, .ref mq, .int (nI n), .ref mr, .ref mw, .ref mt, .ref ml, .ref mk, .ref mv, .int em, .int sp, .int rs])), (mp, .inl (cI, 64, .inl fo)), (mq, .inl (cI, 64, .inl fn)), (mr, .inl (cI, 576, .inl fR)), (mw, .inl (cZ, 64, .inl fW)), (mt, .inl (cI, 8, .inl fs)), (ml, .inl (cI, 4, .inl fl)), (mk, .inl (cI, 20, .inl fk)), (mv, .inl (cI, 20, .inl fv))]) hD hS hA [0, 1, 2, 3, 4, 5, 6, 7, 8] rfl
  refine va_calli (va_runV (As := []) (rest := []) ⟨hx, hb, hml, hown, hts⟩ (c_Model_check l D cI cZ s.heap.size mo mp mq mr mw mt ml mk mv kd n fo fn fR fW fs fl fk fv em sp rs hk hn) (cwV 0 hts (gd4 k_404 k_397 k_398 k_22 k_399) rfl rfl rfl (by decide +kernel) ⟨Nat.le_of_ble_eq_true rfl, Nat.le_of_ble_eq_true rfl⟩) ⟨MY_blind, va_recv (q0 := 0) (ci := 4) hE.1 hP rfl rfl, my_pre hE hPc hDc⟩ rfl rfl hl.1 rfl (lv_room (Nat.le_of_ble_eq_true rfl)) d_Model_call_1 ⟨Nat.zero_le _, Nat.zero_le _⟩) hS (fun q _ h => hFc q h) hFc (fun r u t H1 locs ht hvm hw hB hz1 hk1 hS => ?_)
  obtain ⟨hP1, hD1⟩ := hB
  rw [ht] at hP1
  obtain ⟨g1, g2⟩ := u
  have hCk := hw
  generalize r = rc at hCk ⊢
  obtain ⟨hP, hD⟩ := va_join (wr := []) (w1 := [(mo, .inr (4, [.int kd, .ref mp, .ref mq, .int (nI n), .ref mr, .ref mw, .ref mt, .ref ml, .ref mk, .ref mv, .int em, .int sp, .int rs])), (mp, .inl (cI, 64, .inl fo)), (mq, .inl (cI, 64, .inl fn)), (mr, .inl (cI, 576, .inl g1)), (mw, .inl (cZ, 64, .inl g2)), (mt, .inl (cI, 8, .inl fs)), (ml, .inl (cI, 4, .inl fl)), (mk, .inl (cI, 20, .inl fk)), (mv, .inl (cI, 20, .inl fv))]) hP hD [0, 1, 2, 3, 4, 5, 6, 7, 8] [] rfl rfl (by decide) (by decide) hk1 hFc hP1 hD1
  generalize H1 = H at hP hS ⊢
  have hP : va_P D classes [(mo, .inr (4, [.int kd, .ref mp, .ref mq, .int (nI n), .ref mr, .ref mw, .ref mt, .ref ml, .ref mk, .ref mv, .int em, .int sp, .int rs])), (mp, .inl (cI, 64, .inl fo)), (mq, .inl (cI, 64, .inl fn)), (mr, .inl (cI, 576, .inl g1)), (mw, .inl (cZ, 64, .inl g2)), (mt, .inl (cI, 8, .inl fs)), (ml, .inl (cI, 4, .inl fl)), (mk, .inl (cI, 20, .inl fk)), (mv, .inl (cI, 20, .inl fv))] H := hP
  have hD : va_D A [(mo, .inr (4, [.int kd, .ref mp, .ref mq, .int (nI n), .ref mr, .ref mw, .ref mt, .ref ml, .ref mk, .ref mv, .int em, .int sp, .int rs])), (mp, .inl (cI, 64, .inl fo)), (mq, .inl (cI, 64, .inl fn)), (mr, .inl (cI, 576, .inl g1)), (mw, .inl (cZ, 64, .inl g2)), (mt, .inl (cI, 8, .inl fs)), (ml, .inl (cI, 4, .inl fl)), (mk, .inl (cI, 20, .inl fk)), (mv, .inl (cI, 20, .inl fv))] := hD
  refine lv_bipush (v := (-2)) hx hb d_Model_call_4 (by decide) ?_
  refine lv_icmp_eq (tgt := 12) hx hb d_Model_call_6 (by decide) (fun h1 => ?_) (fun h1 => ?_)
  · -- rc = (-2)
    subst h1
    have hCk2 : 0 < n ∧ ChkR kd (acOf kd) n fo fn (-2) := hCk.resolve_left (fun q => absurd q.2 (by decide))
    have h0n := hCk2.1
    have hgood := good_chk hCk2.2 hn
    refine lv_aload_n hx hb d_Model_call_12 rfl (lv_at hl 0 rfl) ?_
    refine lv_iconst (v := 0) hx hb d_Model_call_13 (by decide) ?_
    refine va_put (D := D) (ci := 4) (v := .int 0) (ty := .int) (C := R_Model) (T := F_Model) (N := 13) hx hb hts in_Model t_Model t_Model_ok n_Model hown hE.1 hP hD hS 0 rfl rfl 10 (by decide) (hts _ k_326) (fun _ h9 => h9) rfl (by decide +kernel) rfl rfl (Nat.le_of_ble_eq_true rfl) d_Model_call_14 (fun H locs hP hD hS => ?_)
    have hP : va_P D classes [(mo, .inr (4, [.int kd, .ref mp, .ref mq, .int (nI n), .ref mr, .ref mw, .ref mt, .ref ml, .ref mk, .ref mv, .int 0, .int sp, .int rs])), (mp, .inl (cI, 64, .inl fo)), (mq, .inl (cI, 64, .inl fn)), (mr, .inl (cI, 576, .inl g1)), (mw, .inl (cZ, 64, .inl g2)), (mt, .inl (cI, 8, .inl fs)), (ml, .inl (cI, 4, .inl fl)), (mk, .inl (cI, 20, .inl fk)), (mv, .inl (cI, 20, .inl fv))] H := hP
    have hD : va_D A [(mo, .inr (4, [.int kd, .ref mp, .ref mq, .int (nI n), .ref mr, .ref mw, .ref mt, .ref ml, .ref mk, .ref mv, .int 0, .int sp, .int rs])), (mp, .inl (cI, 64, .inl fo)), (mq, .inl (cI, 64, .inl fn)), (mr, .inl (cI, 576, .inl g1)), (mw, .inl (cZ, 64, .inl g2)), (mt, .inl (cI, 8, .inl fs)), (ml, .inl (cI, 4, .inl fl)), (mk, .inl (cI, 20, .inl fk)), (mv, .inl (cI, 20, .inl fv))] := hD
    refine lv_aload_n hx hb d_Model_call_17 rfl (lv_at hl 0 rfl) ?_
    refine lv_iconst (v := 0) hx hb d_Model_call_18 (by decide) ?_
    refine va_put (D := D) (ci := 4) (v := .int 0) (ty := .int) (C := R_Model) (T := F_Model) (N := 13) hx hb hts in_Model t_Model t_Model_ok n_Model hown hE.1 hP hD hS 0 rfl rfl 11 (by decide) (hts _ k_327) (fun _ h9 => h9) rfl (by decide +kernel) rfl rfl (Nat.le_of_ble_eq_true rfl) d_Model_call_19 (fun H locs hP hD hS => ?_)
    have hP : va_P D classes [(mo, .inr (4, [.int kd, .ref mp, .ref mq, .int (nI n), .ref mr, .ref mw, .ref mt, .ref ml, .ref mk, .ref mv, .int 0, .int 0, .int rs])), (mp, .inl (cI, 64, .inl fo)), (mq, .inl (cI, 64, .inl fn)), (mr, .inl (cI, 576, .inl g1)), (mw, .inl (cZ, 64, .inl g2)), (mt, .inl (cI, 8, .inl fs)), (ml, .inl (cI, 4, .inl fl)), (mk, .inl (cI, 20, .inl fk)), (mv, .inl (cI, 20, .inl fv))] H := hP
    have hD : va_D A [(mo, .inr (4, [.int kd, .ref mp, .ref mq, .int (nI n), .ref mr, .ref mw, .ref mt, .ref ml, .ref mk, .ref mv, .int 0, .int 0, .int rs])), (mp, .inl (cI, 64, .inl fo)), (mq, .inl (cI, 64, .inl fn)), (mr, .inl (cI, 576, .inl g1)), (mw, .inl (cZ, 64, .inl g2)), (mt, .inl (cI, 8, .inl fs)), (ml, .inl (cI, 4, .inl fl)), (mk, .inl (cI, 20, .inl fk)), (mv, .inl (cI, 20, .inl fv))] := hD
    refine lv_aload_n hx hb d_Model_call_22 rfl (lv_at hl 0 rfl) ?_
    refine lv_iconst (v := 0) hx hb d_Model_call_23 (by decide) ?_
    refine va_put (D := D) (ci := 4) (v := .int 0) (ty := .int) (C := R_Model) (T := F_Model) (N := 13) hx hb hts in_Model t_Model t_Model_ok n_Model hown hE.1 hP hD hS 0 rfl rfl 12 (by decide) (hts _ k_328) (fun _ h9 => h9) rfl (by decide +kernel) rfl rfl (Nat.le_of_ble_eq_true rfl) d_Model_call_24 (fun H locs hP hD hS => ?_)
    have hP : va_P D classes [(mo, .inr (4, [.int kd, .ref mp, .ref mq, .int (nI n), .ref mr, .ref mw, .ref mt, .ref ml, .ref mk, .ref mv, .int 0, .int 0, .int 0])), (mp, .inl (cI, 64, .inl fo)), (mq, .inl (cI, 64, .inl fn)), (mr, .inl (cI, 576, .inl g1)), (mw, .inl (cZ, 64, .inl g2)), (mt, .inl (cI, 8, .inl fs)), (ml, .inl (cI, 4, .inl fl)), (mk, .inl (cI, 20, .inl fk)), (mv, .inl (cI, 20, .inl fv))] H := hP
    have hD : va_D A [(mo, .inr (4, [.int kd, .ref mp, .ref mq, .int (nI n), .ref mr, .ref mw, .ref mt, .ref ml, .ref mk, .ref mv, .int 0, .int 0, .int 0])), (mp, .inl (cI, 64, .inl fo)), (mq, .inl (cI, 64, .inl fn)), (mr, .inl (cI, 576, .inl g1)), (mw, .inl (cZ, 64, .inl g2)), (mt, .inl (cI, 8, .inl fs)), (ml, .inl (cI, 4, .inl fl)), (mk, .inl (cI, 20, .inl fk)), (mv, .inl (cI, 20, .inl fv))] := hD
    refine lv_aload_n hx hb d_Model_call_27 rfl (lv_at hl 0 rfl) ?_
    refine lv_iload_n hx hb d_Model_call_28 rfl (lv_at hl 1 rfl) ?_
    refine lv_iload_n hx hb d_Model_call_29 rfl (lv_at hl 2 rfl) ?_
    refine lv_iload_n hx hb d_Model_call_30 rfl (lv_at hl 3 rfl) ?_
    have hPc := hP.sub (ws' := [(mo, .inr (4, [.int kd, .ref mp, .ref mq, .int (nI n), .ref mr, .ref mw, .ref mt, .ref ml, .ref mk, .ref mv, .int 0, .int 0, .int 0])), (mp, .inl (cI, 64, .inl fo)), (mq, .inl (cI, 64, .inl fn)), (mr, .inl (cI, 576, .inl g1)), (mw, .inl (cZ, 64, .inl g2)), (mt, .inl (cI, 8, .inl fs)), (ml, .inl (cI, 4, .inl fl)), (mk, .inl (cI, 20, .inl fk)), (mv, .inl (cI, 20, .inl fv))]) [0, 1, 2, 3, 4, 5, 6, 7, 8] rfl
    have hDc := hD.sub (ws' := [(mo, .inr (4, [.int kd, .ref mp, .ref mq, .int (nI n), .ref mr, .ref mw, .ref mt, .ref ml, .ref mk, .ref mv, .int 0, .int 0, .int 0])), (mp, .inl (cI, 64, .inl fo)), (mq, .inl (cI, 64, .inl fn)), (mr, .inl (cI, 576, .inl g1)), (mw, .inl (cZ, 64, .inl g2)), (mt, .inl (cI, 8, .inl fs)), (ml, .inl (cI, 4, .inl fl)), (mk, .inl (cI, 20, .inl fk)), (mv, .inl (cI, 20, .inl fv))]) [0, 1, 2, 3, 4, 5, 6, 7, 8] (by decide) rfl
    have hFc := va_free (wc := [(mo, .inr (4, [.int kd, .ref mp, .ref mq, .int (nI n), .ref mr, .ref mw, .ref mt, .ref ml, .ref mk, .ref mv, .int 0, .int 0, .int 0])), (mp, .inl (cI, 64, .inl fo)), (mq, .inl (cI, 64, .inl fn)), (mr, .inl (cI, 576, .inl g1)), (mw, .inl (cZ, 64, .inl g2)), (mt, .inl (cI, 8, .inl fs)), (ml, .inl (cI, 4, .inl fl)), (mk, .inl (cI, 20, .inl fk)), (mv, .inl (cI, 20, .inl fv))]) hD hS hA [0, 1, 2, 3, 4, 5, 6, 7, 8] rfl
    refine va_calli (va_runV (As := [.int x, .int y, .int z]) (rest := []) ⟨hx, hb, hml, hown, hts⟩ (c_Model_done l D cI cZ H.size mo mp mq mr mw mt ml mk mv kd n fo fn g1 g2 fs fl fk fv fa x y z hk hn h0n hfa hgood) (cwV 3 hts (gd4 k_405 k_407 k_16 k_22 k_408) rfl rfl rfl (by decide +kernel) ⟨Nat.le_of_ble_eq_true rfl, Nat.le_of_ble_eq_true rfl⟩) ⟨MY_blind, va_recv (q0 := 0) (ci := 4) hE.1 hP rfl rfl, my_pre hE hPc hDc⟩ rfl rfl hl.1 rfl (lv_room (Nat.le_of_ble_eq_true rfl)) d_Model_call_31 ⟨Nat.zero_le _, Nat.zero_le _⟩) hS (fun q _ h => hFc q h) hFc (fun r u t H1 locs ht hvm hw hB hz1 hk1 hS => ?_)
    obtain ⟨hP1, hD1⟩ := hB
    rw [ht] at hP1
    obtain ⟨v1, v2, v3, v4, v5, v6, v7⟩ := u
    obtain ⟨o1, hgt1, ap1, hDn, hro⟩ := hw
    generalize r = rr at hro ⊢
    obtain ⟨hP, hD⟩ := va_join (wr := []) (w1 := [(mo, .inr (4, [.int kd, .ref mp, .ref mq, .int (nI n), .ref mr, .ref mw, .ref mt, .ref ml, .ref mk, .ref mv, .int v3, .int v2, .int v1])), (mp, .inl (cI, 64, .inl fo)), (mq, .inl (cI, 64, .inl fn)), (mr, .inl (cI, 576, .inl g1)), (mw, .inl (cZ, 64, .inl g2)), (mt, .inl (cI, 8, .inl v7)), (ml, .inl (cI, 4, .inl v6)), (mk, .inl (cI, 20, .inl v4)), (mv, .inl (cI, 20, .inl v5))]) hP hD [0, 1, 2, 3, 4, 5, 6, 7, 8] [] rfl rfl (by decide) (by decide) hk1 hFc hP1 hD1
    generalize H1 = H at hP hS ⊢
    have hP : va_P D classes [(mo, .inr (4, [.int kd, .ref mp, .ref mq, .int (nI n), .ref mr, .ref mw, .ref mt, .ref ml, .ref mk, .ref mv, .int v3, .int v2, .int v1])), (mp, .inl (cI, 64, .inl fo)), (mq, .inl (cI, 64, .inl fn)), (mr, .inl (cI, 576, .inl g1)), (mw, .inl (cZ, 64, .inl g2)), (mt, .inl (cI, 8, .inl v7)), (ml, .inl (cI, 4, .inl v6)), (mk, .inl (cI, 20, .inl v4)), (mv, .inl (cI, 20, .inl v5))] H := hP
    have hD : va_D A [(mo, .inr (4, [.int kd, .ref mp, .ref mq, .int (nI n), .ref mr, .ref mw, .ref mt, .ref ml, .ref mk, .ref mv, .int v3, .int v2, .int v1])), (mp, .inl (cI, 64, .inl fo)), (mq, .inl (cI, 64, .inl fn)), (mr, .inl (cI, 576, .inl g1)), (mw, .inl (cZ, 64, .inl g2)), (mt, .inl (cI, 8, .inl v7)), (ml, .inl (cI, 4, .inl v6)), (mk, .inl (cI, 20, .inl v4)), (mv, .inl (cI, 20, .inl v5))] := hD
    refine lv_istore hx hb d_Model_call_34 hl (by decide) rfl (fun ls hl => ?_)
    have hl : lv_has ls 5 [(4, .int rr), (0, .ref mo), (1, .int x), (2, .int y), (3, .int z)] := hl
    refine lv_iload hx hb d_Model_call_36 (lv_at hl 0 rfl) ?_
    refine lv_iconst (v := 2) hx hb d_Model_call_38 (by decide) ?_
    refine lv_icmp_ne (tgt := 47) hx hb d_Model_call_39 (by decide) (fun h2 => ?_) (fun h2 => ?_)
    · -- ¬ rr = 2
      refine lv_iload hx hb d_Model_call_47 (lv_at hl 0 rfl) ?_
      refine W.iret hx hb hr (fun t ht hW => ⟨⟨rr, ((g1, g2), (v1, v2, v3, v4, v5, v6, v7)), rfl, ?_, ?_⟩, hS.F ht⟩) hS.2.2 d_Model_call_49
      · exact ⟨-2, hCk, Or.inr ⟨rfl, hgt1, ap1, by rw [hDn]; exact fin_ne hro h2⟩⟩
      · exact ⟨by rw [ht]; exact hP.sub [0, 1, 2, 3, 4, 5, 6, 7, 8] rfl, hD.sub [0, 1, 2, 3, 4, 5, 6, 7, 8] (by decide) rfl⟩
    · -- rr = 2
      refine lv_aload_n hx hb d_Model_call_42 rfl (lv_at hl 1 rfl) ?_
      refine lv_iconst (v := 0) hx hb d_Model_call_43 (by decide) ?_
      refine va_put (D := D) (ci := 4) (v := .int 0) (ty := .int) (C := R_Model) (T := F_Model) (N := 13) hx hb hts in_Model t_Model t_Model_ok n_Model hown hE.1 hP hD hS 0 rfl rfl 10 (by decide) (hts _ k_326) (fun _ h9 => h9) rfl (by decide +kernel) rfl rfl (Nat.le_of_ble_eq_true rfl) d_Model_call_44 (fun H locs hP hD hS => ?_)
      have hP : va_P D classes [(mo, .inr (4, [.int kd, .ref mp, .ref mq, .int (nI n), .ref mr, .ref mw, .ref mt, .ref ml, .ref mk, .ref mv, .int 0, .int v2, .int v1])), (mp, .inl (cI, 64, .inl fo)), (mq, .inl (cI, 64, .inl fn)), (mr, .inl (cI, 576, .inl g1)), (mw, .inl (cZ, 64, .inl g2)), (mt, .inl (cI, 8, .inl v7)), (ml, .inl (cI, 4, .inl v6)), (mk, .inl (cI, 20, .inl v4)), (mv, .inl (cI, 20, .inl v5))] H := hP
      have hD : va_D A [(mo, .inr (4, [.int kd, .ref mp, .ref mq, .int (nI n), .ref mr, .ref mw, .ref mt, .ref ml, .ref mk, .ref mv, .int 0, .int v2, .int v1])), (mp, .inl (cI, 64, .inl fo)), (mq, .inl (cI, 64, .inl fn)), (mr, .inl (cI, 576, .inl g1)), (mw, .inl (cZ, 64, .inl g2)), (mt, .inl (cI, 8, .inl v7)), (ml, .inl (cI, 4, .inl v6)), (mk, .inl (cI, 20, .inl v4)), (mv, .inl (cI, 20, .inl v5))] := hD
      refine lv_iload hx hb d_Model_call_47 (lv_at hl 0 rfl) ?_
      refine W.iret hx hb hr (fun t ht hW => ⟨⟨rr, ((g1, g2), (v1, v2, 0, v4, v5, v6, v7)), rfl, ?_, ?_⟩, hS.F ht⟩) hS.2.2 d_Model_call_49
      · exact ⟨-2, hCk, Or.inr ⟨rfl, hgt1, ap1, by rw [hDn, fin_eq hro h2, h2]; rfl⟩⟩
      · exact ⟨by rw [ht]; exact hP.sub [0, 1, 2, 3, 4, 5, 6, 7, 8] rfl, hD.sub [0, 1, 2, 3, 4, 5, 6, 7, 8] (by decide) rfl⟩
  · -- ¬ rc = (-2)
    refine lv_bipush (v := (-2)) hx hb d_Model_call_9 (by decide) ?_
    refine W.iret hx hb hr (fun t ht hW => ⟨⟨(-2), ((g1, g2), (rs, sp, em, fk, fv, fl, fs)), rfl, ?_, ?_⟩, hS.F ht⟩) hS.2.2 d_Model_call_11
    · exact ⟨rc, hCk, Or.inl ⟨h1, rfl, rfl⟩⟩
    · exact ⟨by rw [ht]; exact hP.sub [0, 1, 2, 3, 4, 5, 6, 7, 8] rfl, hD.sub [0, 1, 2, 3, 4, 5, 6, 7, 8] (by decide) rfl⟩
