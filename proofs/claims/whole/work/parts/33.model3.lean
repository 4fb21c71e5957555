set_option maxHeartbeats 4000000 in
set_option maxRecDepth 100000 in
theorem c_Model_heights (l : Launch) (D : va_G) (cI cZ : ClassId) (hz : Nat) (mo mp mq mr mw mt ml mk mv : Nat) (kd : Int32) (n : Nat) (fo fn fR fW fs fl fk fv : Nat → Int32) (em sp rs : Int32) (k : Int32) (hk : kd = 0 ∨ kd = 1 ∨ kd = 2 ∨ kd = 3) (hn : n ≤ 64) : Met l y_Model_heights w_Model_heights (rmk 3) (va_Pc [.ref mo, .int k] (MY D cI cZ [(mo, .inr (4, [.int kd, .ref mp, .ref mq, .int (nI n), .ref mr, .ref mw, .ref mt, .ref ml, .ref mk, .ref mv, .int em, .int sp, .int rs])), (mp, .inl (cI, 64, .inl fo)), (mq, .inl (cI, 64, .inl fn)), (mr, .inl (cI, 576, .inl fR)), (mw, .inl (cZ, 64, .inl fW)), (mt, .inl (cI, 8, .inl fs)), (ml, .inl (cI, 4, .inl fl)), (mk, .inl (cI, 20, .inl fk)), (mv, .inl (cI, 20, .inl fv))] hz)) (va_Qi (fun (r : Int32) (u : (Nat → Int32) × (Nat → Int32)) => (p_has (nI n) k = 0 ∧ r = -1) ∨ ∃ a1, a1 < n ∧ k = nI a1 ∧ HgtR kd (acOf kd) n fo fn a1 r) (fun u t => ME D (va_A [(mo, .inr (4, [.int kd, .ref mp, .ref mq, .int (nI n), .ref mr, .ref mw, .ref mt, .ref ml, .ref mk, .ref mv, .int em, .int sp, .int rs])), (mp, .inl (cI, 64, .inl fo)), (mq, .inl (cI, 64, .inl fn)), (mr, .inl (cI, 576, .inl fR)), (mw, .inl (cZ, 64, .inl fW)), (mt, .inl (cI, 8, .inl fs)), (ml, .inl (cI, 4, .inl fl)), (mk, .inl (cI, 20, .inl fk)), (mv, .inl (cI, 20, .inl fv))] hz) [(mo, .inr (4, [.int kd, .ref mp, .ref mq, .int (nI n), .ref mr, .ref mw, .ref mt, .ref ml, .ref mk, .ref mv, .int em, .int sp, .int rs])), (mp, .inl (cI, 64, .inl fo)), (mq, .inl (cI, 64, .inl fn)), (mr, .inl (cI, 576, .inl u.1)), (mw, .inl (cZ, 64, .inl u.2)), (mt, .inl (cI, 8, .inl fs)), (ml, .inl (cI, 4, .inl fl)), (mk, .inl (cI, 20, .inl fk)), (mv, .inl (cI, 20, .inl fv))] t) (va_A [(mo, .inr (4, [.int kd, .ref mp, .ref mq, .int (nI n), .ref mr, .ref mw, .ref mt, .ref ml, .ref mk, .ref mv, .int em, .int sp, .int rs])), (mp, .inl (cI, 64, .inl fo)), (mq, .inl (cI, 64, .inl fn)), (mr, .inl (cI, 576, .inl fR)), (mw, .inl (cZ, 64, .inl fW)), (mt, .inl (cI, 8, .inl fs)), (ml, .inl (cI, 4, .inl fl)), (mk, .inl (cI, 20, .inl fk)), (mv, .inl (cI, 20, .inl fv))] hz)) 0 0 (va_A [(mo, .inr (4, [.int kd, .ref mp, .ref mq, .int (nI n), .ref mr, .ref mw, .ref mt, .ref ml, .ref mk, .ref mv, .int em, .int sp, .int rs])), (mp, .inl (cI, 64, .inl fo)), (mq, .inl (cI, 64, .inl fn)), (mr, .inl (cI, 576, .inl fR)), (mw, .inl (cZ, 64, .inl fW)), (mt, .inl (cI, 8, .inl fs)), (ml, .inl (cI, 4, .inl fl)), (mk, .inl (cI, 20, .inl fk)), (mv, .inl (cI, 20, .inl fv))] hz) := by
  refine Met.ofW (cc := b_Model_heights) (maxL := 4) (ret := (some .int)) (by decide) rfl ?_
  intro p e s m args below meth c s₁ B hml hv
  obtain ⟨rfl, hsz, hP, hE, hD0⟩ := hv
  have hx := B.exec
  have hb := B.bytes
  have hr := B.returns
  have hts : ∀ w ∈ gW, w.before _ s = true := fun w h => atoms_spec (ws := w_Model_heights) B.pre w (List.mem_cons_of_mem _ h)
  have hown : s.vm.findClass R_Model = some m.cls := findClass_of_methodNamed B.named
  have hlocks := B.notSynchronized
  subst hsz
  have hD := hD0.self (sz := s.heap.size)
  have hA : ∀ q : Nat, s.heap.size ≤ q → va_A [(mo, .inr (4, [.int kd, .ref mp, .ref mq, .int (nI n), .ref mr, .ref mw, .ref mt, .ref ml, .ref mk, .ref mv, .int em, .int sp, .int rs])), (mp, .inl (cI, 64, .inl fo)), (mq, .inl (cI, 64, .inl fn)), (mr, .inl (cI, 576, .inl fR)), (mw, .inl (cZ, 64, .inl fW)), (mt, .inl (cI, 8, .inl fs)), (ml, .inl (cI, 4, .inl fl)), (mk, .inl (cI, 20, .inl fk)), (mv, .inl (cI, 20, .inl fv))] s.heap.size q := fun q h => Or.inr h
  generalize va_A [(mo, .inr (4, [.int kd, .ref mp, .ref mq, .int (nI n), .ref mr, .ref mw, .ref mt, .ref ml, .ref mk, .ref mv, .int em, .int sp, .int rs])), (mp, .inl (cI, 64, .inl fo)), (mq, .inl (cI, 64, .inl fn)), (mr, .inl (cI, 576, .inl fR)), (mw, .inl (cZ, 64, .inl fW)), (mt, .inl (cI, 8, .inl fs)), (ml, .inl (cI, 4, .inl fl)), (mk, .inl (cI, 20, .inl fk)), (mv, .inl (cI, 20, .inl fv))] s.heap.size = A at hD hA ⊢
  have hS : va_S A s.heap s.heap [] := va_S.rf
  have hP : va_P D classes [(mo, .inr (4, [.int kd, .ref mp, .ref mq, .int (nI n), .ref mr, .ref mw, .ref mt, .ref ml, .ref mk, .ref mv, .int em, .int sp, .int rs])), (mp, .inl (cI, 64, .inl fo)), (mq, .inl (cI, 64, .inl fn)), (mr, .inl (cI, 576, .inl fR)), (mw, .inl (cZ, 64, .inl fW)), (mt, .inl (cI, 8, .inl fs)), (ml, .inl (cI, 4, .inl fl)), (mk, .inl (cI, 20, .inl fk)), (mv, .inl (cI, 20, .inl fv))] s.heap := hP
  have hD : va_D A [(mo, .inr (4, [.int kd, .ref mp, .ref mq, .int (nI n), .ref mr, .ref mw, .ref mt, .ref ml, .ref mk, .ref mv, .int em, .int sp, .int rs])), (mp, .inl (cI, 64, .inl fo)), (mq, .inl (cI, 64, .inl fn)), (mr, .inl (cI, 576, .inl fR)), (mw, .inl (cZ, 64, .inl fW)), (mt, .inl (cI, 8, .inl fs)), (ml, .inl (cI, 4, .inl fl)), (mk, .inl (cI, 20, .inl fk)), (mv, .inl (cI, 20, .inl fv))] := hD
  have hl := lv_entry ([.ref mo, .int k]) (n := 4) (Nat.le_of_ble_eq_true rfl)
  rw [lg_entry_eq]
  generalize (lg_sl ([.ref mo, .int k]) ++ List.replicate (4 - (lg_sl ([.ref mo, .int k])).length) Slot.unset).toArray = ls at hl ⊢
  have hl : lv_has ls 4 [(0, .ref mo), (1, .int k)] := hl
  refine lv_iload_n hx hb d_Model_heights_0 rfl (lv_at hl 1 rfl) ?_
  refine lv_if_lt (tgt := 12) hx hb d_Model_heights_1 (by decide) (fun h1 => ?_) (fun h1 => ?_)
  · -- k < 0
    refine lv_iconst (v := (-1)) hx hb d_Model_heights_12 (by decide) ?_
    refine W.iret hx hb hr (fun t ht hW => ⟨⟨(-1), (fR, fW), rfl, ?_, ?_⟩, hS.F ht⟩) hS.2.2 d_Model_heights_13
    · exact Or.inl ⟨by simp only [p_has, h1, if_true], rfl⟩
    · exact ⟨by rw [ht]; exact hP.sub [0, 1, 2, 3, 4, 5, 6, 7, 8] rfl, hD.sub [0, 1, 2, 3, 4, 5, 6, 7, 8] (by decide) rfl⟩
  · -- ¬ k < 0
    refine lv_iload_n hx hb d_Model_heights_4 rfl (lv_at hl 1 rfl) ?_
    refine lv_aload_n hx hb d_Model_heights_5 rfl (lv_at hl 0 rfl) ?_
    refine va_get (D := D) (ci := 4) (v := .int (nI n)) (C := R_Model) (T := F_Model) (N := 13) hx hb hts in_Model hown hE.1 hP 0 rfl rfl 3 (by decide) (hts _ k_319) (fun _ h9 => h9) rfl d_Model_heights_6 ?_
    refine lv_icmp_lt (tgt := 14) hx hb d_Model_heights_9 (by decide) (fun h2 => ?_) (fun h2 => ?_)
    · -- k < (nI n)
      obtain ⟨a, ha31, rfl⟩ := nI_of h1
      have ha : a < n := (nI_ltI ha31 (by omega)).mp h2
      have h0n : 0 < n := by omega
      refine lv_aload_n hx hb d_Model_heights_14 rfl (lv_at hl 0 rfl) ?_
      have hPc := hP.sub (ws' := [(mo, .inr (4, [.int kd, .ref mp, .ref mq, .int (nI n), .ref mr, .ref mw, .ref mt, .ref ml, .ref mk, .ref mv, .int em, .int sp, .int rs])), (mp, .inl (cI, 64, .inl fo)), (mq, .inl (cI, 64, .inl fn)), (mr, .inl (cI, 576, .inl fR)), (mw, .inl (cZ, 64, .inl fW)), (mt, .inl (cI, 8, .inl fs)), (ml, .inl (cI, 4, .inl fl)), (mk, .inl (cI, 20, .inl fk)), (mv, .inl (cI, 20, .inl fv))]) [0, 1, 2, 3, 4, 5, 6, 7, 8] rfl
      have hDc := hD.sub (ws' := [(mo, .inr (4, [.int kd, .ref mp, .ref mq, .int (nI n), .ref mr, .ref mw, .ref mt, .ref ml, .ref mk, .ref mv, .int em, .int sp, .int rs])), (mp, .inl (cI, 64, .inl fo)), (mq, .inl (cI, 64, .inl fn)), (mr, .inl (cI, 576, .inl fR)), (mw, .inl (cZ, 64, .inl fW)), (mt, .inl (cI, 8, .inl fs)), (ml, .inl (cI, 4, .inl fl)), (mk, .inl (cI, 20, .inl fk)), (mv, .inl (cI, 20, .inl fv))]) [0, 1, 2, 3, 4, 5, 6, 7, 8] (by decide) rfl
      have hFc := va_free (wc := [(mo, .inr (4, [.int kd, .ref mp, .ref mq, .int (nI n), .ref mr, .ref mw, .ref mt, .ref ml, .ref mk, .ref mv, .int em, .int sp, .int rs])), (mp, .inl (cI, 64, .inl fo)), (mq, .inl (cI, 64, .inl fn)), (mr, .inl (cI, 576, .inl fR)), (mw, .inl (cZ, 64, .inl fW)), (mt, .inl (cI, 8, .inl fs)), (ml, .inl (cI, 4, .inl fl)), (mk, .inl (cI, 20, .inl fk)), (mv, .inl (cI, 20, .inl fv))]) hD hS hA [0, 1, 2, 3, 4, 5, 6, 7, 8] rfl
      refine va_callv (va_runV (As := []) (rest := []) ⟨hx, hb, hml, hown, hts⟩ (c_Model_fill l D cI cZ s.heap.size mo mp mq mr mw mt ml mk mv kd n fo fn fR fW fs fl fk fv em sp rs hk hn h0n) (cwV 0 hts (gd4 k_373 k_375 k_11 k_22 k_376) rfl rfl rfl (by decide +kernel) ⟨Nat.le_of_ble_eq_true rfl, Nat.le_of_ble_eq_true rfl⟩) ⟨MY_blind, va_recv (q0 := 0) (ci := 4) hE.1 hP rfl rfl, my_pre hE hPc hDc⟩ rfl rfl hl.1 rfl (lv_room (Nat.le_of_ble_eq_true rfl)) d_Model_heights_15 ⟨Nat.zero_le _, Nat.zero_le _⟩) hS (fun q _ h => hFc q h) hFc (fun u t H1 locs ht hvm hw hB hz1 hk1 hS => ?_)
      obtain ⟨hP1, hD1⟩ := hB
      rw [ht] at hP1
      obtain ⟨g1, g2⟩ := u
      have hF : FillR kd (acOf kd) n fo fn g1 g2 := hw
      obtain ⟨hP, hD⟩ := va_join (wr := []) (w1 := [(mo, .inr (4, [.int kd, .ref mp, .ref mq, .int (nI n), .ref mr, .ref mw, .ref mt, .ref ml, .ref mk, .ref mv, .int em, .int sp, .int rs])), (mp, .inl (cI, 64, .inl fo)), (mq, .inl (cI, 64, .inl fn)), (mr, .inl (cI, 576, .inl g1)), (mw, .inl (cZ, 64, .inl g2)), (mt, .inl (cI, 8, .inl fs)), (ml, .inl (cI, 4, .inl fl)), (mk, .inl (cI, 20, .inl fk)), (mv, .inl (cI, 20, .inl fv))]) hP hD [0, 1, 2, 3, 4, 5, 6, 7, 8] [] rfl rfl (by decide) (by decide) hk1 hFc hP1 hD1
      generalize H1 = H at hP hS ⊢
      have hP : va_P D classes [(mo, .inr (4, [.int kd, .ref mp, .ref mq, .int (nI n), .ref mr, .ref mw, .ref mt, .ref ml, .ref mk, .ref mv, .int em, .int sp, .int rs])), (mp, .inl (cI, 64, .inl fo)), (mq, .inl (cI, 64, .inl fn)), (mr, .inl (cI, 576, .inl g1)), (mw, .inl (cZ, 64, .inl g2)), (mt, .inl (cI, 8, .inl fs)), (ml, .inl (cI, 4, .inl fl)), (mk, .inl (cI, 20, .inl fk)), (mv, .inl (cI, 20, .inl fv))] H := hP
      have hD : va_D A [(mo, .inr (4, [.int kd, .ref mp, .ref mq, .int (nI n), .ref mr, .ref mw, .ref mt, .ref ml, .ref mk, .ref mv, .int em, .int sp, .int rs])), (mp, .inl (cI, 64, .inl fo)), (mq, .inl (cI, 64, .inl fn)), (mr, .inl (cI, 576, .inl g1)), (mw, .inl (cZ, 64, .inl g2)), (mt, .inl (cI, 8, .inl fs)), (ml, .inl (cI, 4, .inl fl)), (mk, .inl (cI, 20, .inl fk)), (mv, .inl (cI, 20, .inl fv))] := hD
      refine lv_iconst (v := 0) hx hb d_Model_heights_18 (by decide) ?_
      refine lv_istore_n hx hb d_Model_heights_19 rfl hl (by decide) rfl (fun ls hl => ?_)
      have hl : lv_has ls 4 [(2, .int 0), (0, .ref mo), (1, .int (nI a))] := hl
      refine lv_iconst (v := 0) hx hb d_Model_heights_20 (by decide) ?_
      refine lv_istore_n hx hb d_Model_heights_21 rfl hl (by decide) rfl (fun ls hl => ?_)
      have hl : lv_has ls 4 [(3, .int 0), (2, .int 0), (0, .ref mo), (1, .int (nI a))] := hl
      have key : ∀ (N : Nat) (j mb : Nat) (H : Heap) (locs : List Loc) (ls : Array Slot), j + N = 9 → lv_has ls 4 [(3, .int (nI j)), (2, .int (nI mb)), (0, .ref mo), (1, .int (nI a))] → va_P D classes [(mo, .inr (4, [.int kd, .ref mp, .ref mq, .int (nI n), .ref mr, .ref mw, .ref mt, .ref ml, .ref mk, .ref mv, .int em, .int sp, .int rs])), (mp, .inl (cI, 64, .inl fo)), (mq, .inl (cI, 64, .inl fn)), (mr, .inl (cI, 576, .inl g1)), (mw, .inl (cZ, 64, .inl g2)), (mt, .inl (cI, 8, .inl fs)), (ml, .inl (cI, 4, .inl fl)), (mk, .inl (cI, 20, .inl fk)), (mv, .inl (cI, 20, .inl fv))] H → va_D A [(mo, .inr (4, [.int kd, .ref mp, .ref mq, .int (nI n), .ref mr, .ref mw, .ref mt, .ref ml, .ref mk, .ref mv, .int em, .int sp, .int rs])), (mp, .inl (cI, 64, .inl fo)), (mq, .inl (cI, 64, .inl fn)), (mr, .inl (cI, 576, .inl g1)), (mw, .inl (cZ, 64, .inl g2)), (mt, .inl (cI, 8, .inl fs)), (ml, .inl (cI, 4, .inl fl)), (mk, .inl (cI, 20, .inl fk)), (mv, .inl (cI, 20, .inl fv))] → (mb < 512 ∧ ∀ h, h < 9 → (mb.testBit h = true ↔ (h < j ∧ ¬ g1 (9 * a + h) = 0))) → va_S A s.heap H locs → W p l e (headSpec w_Model_heights (rmk 3)).room s m ([.ref mo, .int (nI a)] : List Value).toArray below meth c H locs 0 0 (MQ below (va_Qi (fun (r : Int32) (u : (Nat → Int32) × (Nat → Int32)) => (p_has (nI n) (nI a) = 0 ∧ r = -1) ∨ ∃ a1, a1 < n ∧ (nI a) = nI a1 ∧ HgtR kd (acOf kd) n fo fn a1 r) (fun u t => ME D A [(mo, .inr (4, [.int kd, .ref mp, .ref mq, .int (nI n), .ref mr, .ref mw, .ref mt, .ref ml, .ref mk, .ref mv, .int em, .int sp, .int rs])), (mp, .inl (cI, 64, .inl fo)), (mq, .inl (cI, 64, .inl fn)), (mr, .inl (cI, 576, .inl u.1)), (mw, .inl (cZ, 64, .inl u.2)), (mt, .inl (cI, 8, .inl fs)), (ml, .inl (cI, 4, .inl fl)), (mk, .inl (cI, 20, .inl fk)), (mv, .inl (cI, 20, .inl fv))] t) A) ([.ref mo, .int (nI a)] : List Value).toArray s 0 0 A) (F0 m 22 ls []) := by
        intro N
        induction N with
        | zero =>
          intro j mb H locs ls hjN hl hP hD hbt hS
          refine lv_iload_n hx hb d_Model_heights_22 rfl (lv_at hl 0 rfl) ?_
          refine lv_bipush (v := 9) hx hb d_Model_heights_23 (by decide) ?_
          refine lv_icmp_ge (tgt := 58) hx hb d_Model_heights_25 (by decide) (fun h3 => ?_) (fun h3 => ?_)
          · -- 9 ≤ (nI j)
            refine lv_iload_n hx hb d_Model_heights_58 rfl (lv_at hl 1 rfl) ?_
            refine W.iret hx hb hr (fun t ht hW => ⟨⟨(nI mb), (g1, g2), rfl, ?_, ?_⟩, hS.F ht⟩) hS.2.2 d_Model_heights_59
            · exact Or.inr ⟨a, ha, rfl, mb, hbt.1, rfl, fun h hh => (hbt.2 h hh).trans ⟨fun q => (hF.1 a h ha hh).mp q.2, fun q => ⟨by omega, (hF.1 a h ha hh).mpr q⟩⟩⟩
            · exact ⟨by rw [ht]; exact hP.sub [0, 1, 2, 3, 4, 5, 6, 7, 8] rfl, hD.sub [0, 1, 2, 3, 4, 5, 6, 7, 8] (by decide) rfl⟩
          · -- ¬ 9 ≤ (nI j)
            exact absurd (show (9 : Int32) ≤ nI j from nI_le (a := 9) (by omega) (by omega)) h3
        | succ N ih =>
          intro j mb H locs ls hjN hl hP hD hbt hS
          refine lv_iload_n hx hb d_Model_heights_22 rfl (lv_at hl 0 rfl) ?_
          refine lv_bipush (v := 9) hx hb d_Model_heights_23 (by decide) ?_
          refine lv_icmp_ge (tgt := 58) hx hb d_Model_heights_25 (by decide) (fun h4 => ?_) (fun h4 => ?_)
          · -- 9 ≤ (nI j)
            exact absurd (show nI 9 ≤ nI j from h4) (nI_ge (by omega) (by omega))
          · -- ¬ 9 ≤ (nI j)
            refine lv_iload_n hx hb d_Model_heights_28 rfl (lv_at hl 1 rfl) ?_
            refine lv_aload_n hx hb d_Model_heights_29 rfl (lv_at hl 2 rfl) ?_
            refine va_get (D := D) (ci := 4) (v := .ref mr) (C := R_Model) (T := F_Model) (N := 13) hx hb hts in_Model hown hE.1 hP 0 rfl rfl 4 (by decide) (hts _ k_320) (fun _ h9 => h9) rfl d_Model_heights_30 ?_
            refine lv_bipush (v := 9) hx hb d_Model_heights_33 (by decide) ?_
            refine lv_iload_n hx hb d_Model_heights_35 rfl (lv_at hl 3 rfl) ?_
            refine lv_imul hx hb d_Model_heights_36 ?_
            refine lv_iload_n hx hb d_Model_heights_37 rfl (lv_at hl 0 rfl) ?_
            refine lv_iadd hx hb d_Model_heights_38 ?_
            refine lv_eqi (y := (nI (9 * a + j))) (ix9 a j) ?_
            refine va_iald hx hb hE.1 hP 3 0 rfl rfl (vp_in_nI (by omega) (by decide)) d_Model_heights_39 ?_
            refine lv_eqi (y := g1 (9 * a + j)) (congrArg g1 (nI_clamp (show (9 * a + j) < 2 ^ 31 by omega))) ?_
            refine lv_if_eq (tgt := 49) hx hb d_Model_heights_40 (by decide) (fun h5 => ?_) (fun h5 => ?_)
            · -- (g1 (9 * a + j)) = 0
              refine lv_iconst (v := 0) hx hb d_Model_heights_49 (by decide) ?_
              refine lv_ior hx hb d_Model_heights_50 ?_
              refine lv_eqi (y := (nI mb)) (Int32.or_zero) ?_
              refine lv_istore_n hx hb d_Model_heights_51 rfl hl (by decide) rfl (fun ls hl => ?_)
              have hl : lv_has ls 4 [(2, .int (nI mb)), (3, .int (nI j)), (0, .ref mo), (1, .int (nI a))] := hl
              refine lv_iinc (v := ((nI j) + 1)) (k := 1) hx hb d_Model_heights_52 hl rfl rfl (by decide) rfl (fun ls hl => ?_)
              have hl : lv_has ls 4 [(3, .int ((nI j) + 1)), (2, .int (nI mb)), (0, .ref mo), (1, .int (nI a))] := hl
              refine lv_goto (tgt := 22) hx hb d_Model_heights_55 (by decide) ?_
              rw [nI_1] at hl
              exact ih (j + 1) _ _ _ _ (by omega) (lv_sub hl [0, 1, 2, 3] rfl) hP hD (bits_0 (P := fun h => ¬ g1 (9 * a + h) = 0) hbt (fun q => q h5)) hS
            · -- ¬ (g1 (9 * a + j)) = 0
              refine lv_iconst (v := 1) hx hb d_Model_heights_43 (by decide) ?_
              refine lv_iload_n hx hb d_Model_heights_44 rfl (lv_at hl 0 rfl) ?_
              refine lv_ishl hx hb d_Model_heights_45 ?_
              refine lv_goto (tgt := 50) hx hb d_Model_heights_46 (by decide) ?_
              refine lv_ior hx hb d_Model_heights_50 ?_
              refine lv_eqi (y := (nI (mb ||| 2 ^ j))) ((bt_set mb hbt.1 j (by omega)).1) ?_
              refine lv_istore_n hx hb d_Model_heights_51 rfl hl (by decide) rfl (fun ls hl => ?_)
              have hl : lv_has ls 4 [(2, .int (nI (mb ||| 2 ^ j))), (3, .int (nI j)), (0, .ref mo), (1, .int (nI a))] := hl
              refine lv_iinc (v := ((nI j) + 1)) (k := 1) hx hb d_Model_heights_52 hl rfl rfl (by decide) rfl (fun ls hl => ?_)
              have hl : lv_has ls 4 [(3, .int ((nI j) + 1)), (2, .int (nI (mb ||| 2 ^ j))), (0, .ref mo), (1, .int (nI a))] := hl
              refine lv_goto (tgt := 22) hx hb d_Model_heights_55 (by decide) ?_
              rw [nI_1] at hl
              exact ih (j + 1) _ _ _ _ (by omega) (lv_sub hl [0, 1, 2, 3] rfl) hP hD (bits_1 (P := fun h => ¬ g1 (9 * a + h) = 0) (by omega) hbt h5) hS
      exact key 9 0 0 H locs ls rfl (lv_sub hl [0, 1, 2, 3] rfl) (hP.sub [0, 1, 2, 3, 4, 5, 6, 7, 8] rfl) (hD.sub [0, 1, 2, 3, 4, 5, 6, 7, 8] (by decide) rfl) ⟨by decide, fun h _ => by simp⟩ hS
    · -- ¬ k < (nI n)
      refine lv_iconst (v := (-1)) hx hb d_Model_heights_12 (by decide) ?_
      refine W.iret hx hb hr (fun t ht hW => ⟨⟨(-1), (fR, fW), rfl, ?_, ?_⟩, hS.F ht⟩) hS.2.2 d_Model_heights_13
      · exact Or.inl ⟨by simp only [p_has, h1, Int32.not_lt.mp h2, if_true, if_false], rfl⟩
      · exact ⟨by rw [ht]; exact hP.sub [0, 1, 2, 3, 4, 5, 6, 7, 8] rfl, hD.sub [0, 1, 2, 3, 4, 5, 6, 7, 8] (by decide) rfl⟩
set_option maxHeartbeats 4000000 in
set_option maxRecDepth 100000 in
theorem c_Model_check (l : Launch) (D : va_G) (cI cZ : ClassId) (hz : Nat) (mo mp mq mr mw mt ml mk mv : Nat) (kd : Int32) (n : Nat) (fo fn fR fW fs fl fk fv : Nat → Int32) (em sp rs : Int32) (hk : kd = 0 ∨ kd = 1 ∨ kd = 2 ∨ kd = 3) (hn : n ≤ 64) : Met l y_Model_check w_Model_check (rmk 3) (va_Pc [.ref mo] (MY D cI cZ [(mo, .inr (4, [.int kd, .ref mp, .ref mq, .int (nI n), .ref mr, .ref mw, .ref mt, .ref ml, .ref mk, .ref mv, .int em, .int sp, .int rs])), (mp, .inl (cI, 64, .inl fo)), (mq, .inl (cI, 64, .inl fn)), (mr, .inl (cI, 576, .inl fR)), (mw, .inl (cZ, 64, .inl fW)), (mt, .inl (cI, 8, .inl fs)), (ml, .inl (cI, 4, .inl fl)), (mk, .inl (cI, 20, .inl fk)), (mv, .inl (cI, 20, .inl fv))] hz)) (va_Qi (fun (r : Int32) (u : (Nat → Int32) × (Nat → Int32)) => (n = 0 ∧ r = 64) ∨ (0 < n ∧ ChkR kd (acOf kd) n fo fn r)) (fun u t => ME D (va_A [(mo, .inr (4, [.int kd, .ref mp, .ref mq, .int (nI n), .ref mr, .ref mw, .ref mt, .ref ml, .ref mk, .ref mv, .int em, .int sp, .int rs])), (mp, .inl (cI, 64, .inl fo)), (mq, .inl (cI, 64, .inl fn)), (mr, .inl (cI, 576, .inl fR)), (mw, .inl (cZ, 64, .inl fW)), (mt, .inl (cI, 8, .inl fs)), (ml, .inl (cI, 4, .inl fl)), (mk, .inl (cI, 20, .inl fk)), (mv, .inl (cI, 20, .inl fv))] hz) [(mo, .inr (4, [.int kd, .ref mp, .ref mq, .int (nI n), .ref mr, .ref mw, .ref mt, .ref ml, .ref mk, .ref mv, .int em, .int sp, .int rs])), (mp, .inl (cI, 64, .inl fo)), (mq, .inl (cI, 64, .inl fn)), (mr, .inl (cI, 576, .inl u.1)), (mw, .inl (cZ, 64, .inl u.2)), (mt, .inl (cI, 8, .inl fs)), (ml, .inl (cI, 4, .inl fl)), (mk, .inl (cI, 20, .inl fk)), (mv, .inl (cI, 20, .inl fv))] t) (va_A [(mo, .inr (4, [.int kd, .ref mp, .ref mq, .int (nI n), .ref mr, .ref mw, .ref mt, .ref ml, .ref mk, .ref mv, .int em, .int sp, .int rs])), (mp, .inl (cI, 64, .inl fo)), (mq, .inl (cI, 64, .inl fn)), (mr, .inl (cI, 576, .inl fR)), (mw, .inl (cZ, 64, .inl fW)), (mt, .inl (cI, 8, .inl fs)), (ml, .inl (cI, 4, .inl fl)), (mk, .inl (cI, 20, .inl fk)), (mv, .inl (cI, 20, .inl fv))] hz)) 0 0 (va_A [(mo, .inr (4, [.int kd, .ref mp, .ref mq, .int (nI n), .ref mr, .ref mw, .ref mt, .ref ml, .ref mk, .ref mv, .int em, .int sp, .int rs])), (mp, .inl (cI, 64, .inl fo)), (mq, .inl (cI, 64, .inl fn)), (mr, .inl (cI, 576, .inl fR)), (mw, .inl (cZ, 64, .inl fW)), (mt, .inl (cI, 8, .inl fs)), (ml, .inl (cI, 4, .inl fl)), (mk, .inl (cI, 20, .inl fk)), (mv, .inl (cI, 20, .inl fv))] hz) := by
  refine Met.ofW (cc := b_Model_check) (maxL := 4) (ret := (some .int)) (by decide) rfl ?_
  intro p e s m args below meth c s₁ B hml hv
  obtain ⟨rfl, hsz, hP, hE, hD0⟩ := hv
  have hx := B.exec
  have hb := B.bytes
  have hr := B.returns
  have hts : ∀ w ∈ gW, w.before _ s = true := fun w h => atoms_spec (ws := w_Model_check) B.pre w (List.mem_cons_of_mem _ h)
  have hown : s.vm.findClass R_Model = some m.cls := findClass_of_methodNamed B.named
  have hlocks := B.notSynchronized
  subst hsz
  have hD := hD0.self (sz := s.heap.size)
  have hA : ∀ q : Nat, s.heap.size ≤ q → va_A [(mo, .inr (4, [.int kd, .ref mp, .ref mq, .int (nI n), .ref mr, .ref mw, .ref mt, .ref ml, .ref mk, .ref mv, .int em, .int sp, .int rs])), (mp, .inl (cI, 64, .inl fo)), (mq, .inl (cI, 64, .inl fn)), (mr, .inl (cI, 576, .inl fR)), (mw, .inl (cZ, 64, .inl fW)), (mt, .inl (cI, 8, .inl fs)), (ml, .inl (cI, 4, .inl fl)), (mk, .inl (cI, 20, .inl fk)), (mv, .inl (cI, 20, .inl fv))] s.heap.size q := fun q h => Or.inr h
  generalize va_A [(mo, .inr (4, [.int kd, .ref mp, .ref mq, .int (nI n), .ref mr, .ref mw, .ref mt, .ref ml, .ref mk, .ref mv, .int em, .int sp, .int rs])), (mp, .inl (cI, 64, .inl fo)), (mq, .inl (cI, 64, .inl fn)), (mr, .inl (cI, 576, .inl fR)), (mw, .inl (cZ, 64, .inl fW)), (mt, .inl (cI, 8, .inl fs)), (ml, .inl (cI, 4, .inl fl)), (mk, .inl (cI, 20, .inl fk)), (mv, .inl (cI, 20, .inl fv))] s.heap.size = A at hD hA ⊢
  have hS : va_S A s.heap s.heap [] := va_S.rf
  have hP : va_P D classes [(mo, .inr (4, [.int kd, .ref mp, .ref mq, .int (nI n), .ref mr, .ref mw, .ref mt, .ref ml, .ref mk, .ref mv, .int em, .int sp, .int rs])), (mp, .inl (cI, 64, .inl fo)), (mq, .inl (cI, 64, .inl fn)), (mr, .inl (cI, 576, .inl fR)), (mw, .inl (cZ, 64, .inl fW)), (mt, .inl (cI, 8, .inl fs)), (ml, .inl (cI, 4, .inl fl)), (mk, .inl (cI, 20, .inl fk)), (mv, .inl (cI, 20, .inl fv))] s.heap := hP
  have hD : va_D A [(mo, .inr (4, [.int kd, .ref mp, .ref mq, .int (nI n), .ref mr, .ref mw, .ref mt, .ref ml, .ref mk, .ref mv, .int em, .int sp, .int rs])), (mp, .inl (cI, 64, .inl fo)), (mq, .inl (cI, 64, .inl fn)), (mr, .inl (cI, 576, .inl fR)), (mw, .inl (cZ, 64, .inl fW)), (mt, .inl (cI, 8, .inl fs)), (ml, .inl (cI, 4, .inl fl)), (mk, .inl (cI, 20, .inl fk)), (mv, .inl (cI, 20, .inl fv))] := hD
  have hl := lv_entry ([.ref mo]) (n := 4) (Nat.le_of_ble_eq_true rfl)
  rw [lg_entry_eq]
  generalize (lg_sl ([.ref mo]) ++ List.replicate (4 - (lg_sl ([.ref mo])).length) Slot.unset).toArray = ls at hl ⊢
  have hl : lv_has ls 4 [(0, .ref mo)] := hl
  refine lv_aload_n hx hb d_Model_check_0 rfl (lv_at hl 0 rfl) ?_
  refine va_get (D := D) (ci := 4) (v := .int (nI n)) (C := R_Model) (T := F_Model) (N := 13) hx hb hts in_Model hown hE.1 hP 0 rfl rfl 3 (by decide) (hts _ k_319) (fun _ h9 => h9) rfl d_Model_check_1 ?_
  refine lv_if_ne (tgt := 10) hx hb d_Model_check_4 (by decide) (fun h1 => ?_) (fun h1 => ?_)
  · -- ¬ (nI n) = 0
    have h0n : 0 < n := Nat.pos_of_ne_zero (fun q => h1 (by rw [q]; rfl))
    refine lv_aload_n hx hb d_Model_check_10 rfl (lv_at hl 0 rfl) ?_
    have hPc := hP.sub (ws' := [(mo, .inr (4, [.int kd, .ref mp, .ref mq, .int (nI n), .ref mr, .ref mw, .ref mt, .ref ml, .ref mk, .ref mv, .int em, .int sp, .int rs])), (mp, .inl (cI, 64, .inl fo)), (mq, .inl (cI, 64, .inl fn)), (mr, .inl (cI, 576, .inl fR)), (mw, .inl (cZ, 64, .inl fW)), (mt, .inl (cI, 8, .inl fs)), (ml, .inl (cI, 4, .inl fl)), (mk, .inl (cI, 20, .inl fk)), (mv, .inl (cI, 20, .inl fv))]) [0, 1, 2, 3, 4, 5, 6, 7, 8] rfl
    have hDc := hD.sub (ws' := [(mo, .inr (4, [.int kd, .ref mp, .ref mq, .int (nI n), .ref mr, .ref mw, .ref mt, .ref ml, .ref mk, .ref mv, .int em, .int sp, .int rs])), (mp, .inl (cI, 64, .inl fo)), (mq, .inl (cI, 64, .inl fn)), (mr, .inl (cI, 576, .inl fR)), (mw, .inl (cZ, 64, .inl fW)), (mt, .inl (cI, 8, .inl fs)), (ml, .inl (cI, 4, .inl fl)), (mk, .inl (cI, 20, .inl fk)), (mv, .inl (cI, 20, .inl fv))]) [0, 1, 2, 3, 4, 5, 6, 7, 8] (by decide) rfl
    have hFc := va_free (wc := [(mo, .inr (4, [.int kd, .ref mp, .ref mq, .int (nI n), .ref mr, .ref mw, .ref mt, .ref ml, .ref mk, .ref mv, .int em, .int sp, .int rs])), (mp, .inl (cI, 64, .inl fo)), (mq, .inl (cI, 64, .inl fn)), (mr, .inl (cI, 576, .inl fR)), (mw, .inl (cZ, 64, .inl fW)), (mt, .inl (cI, 8, .inl fs)), (ml, .inl (cI, 4, .inl fl)), (mk, .inl (cI, 20, .inl fk)), (mv, .inl (cI, 20, .inl fv))]) hD hS hA [0, 1, 2, 3, 4, 5, 6, 7, 8] rfl
    refine va_callv (va_runV (As := []) (rest := []) ⟨hx, hb, hml, hown, hts⟩ (c_Model_fill l D cI cZ s.heap.size mo mp mq mr mw mt ml mk mv kd n fo fn fR fW fs fl fk fv em sp rs hk hn h0n) (cwV 0 hts (gd4 k_373 k_375 k_11 k_22 k_376) rfl rfl rfl (by decide +kernel) ⟨Nat.le_of_ble_eq_true rfl, Nat.le_of_ble_eq_true rfl⟩) ⟨MY_blind, va_recv (q0 := 0) (ci := 4) hE.1 hP rfl rfl, my_pre hE hPc hDc⟩ rfl rfl hl.1 rfl (lv_room (Nat.le_of_ble_eq_true rfl)) d_Model_check_11 ⟨Nat.zero_le _, Nat.zero_le _⟩) hS (fun q _ h => hFc q h) hFc (fun u t H1 locs ht hvm hw hB hz1 hk1 hS => ?_)
    obtain ⟨hP1, hD1⟩ := hB
    rw [ht] at hP1
    obtain ⟨g1, g2⟩ := u
    have hF : FillR kd (acOf kd) n fo fn g1 g2 := hw
    obtain ⟨hP, hD⟩ := va_join (wr := []) (w1 := [(mo, .inr (4, [.int kd, .ref mp, .ref mq, .int (nI n), .ref mr, .ref mw, .ref mt, .ref ml, .ref mk, .ref mv, .int em, .int sp, .int rs])), (mp, .inl (cI, 64, .inl fo)), (mq, .inl (cI, 64, .inl fn)), (mr, .inl (cI, 576, .inl g1)), (mw, .inl (cZ, 64, .inl g2)), (mt, .inl (cI, 8, .inl fs)), (ml, .inl (cI, 4, .inl fl)), (mk, .inl (cI, 20, .inl fk)), (mv, .inl (cI, 20, .inl fv))]) hP hD [0, 1, 2, 3, 4, 5, 6, 7, 8] [] rfl rfl (by decide) (by decide) hk1 hFc hP1 hD1
    generalize H1 = H at hP hS ⊢
    have hP : va_P D classes [(mo, .inr (4, [.int kd, .ref mp, .ref mq, .int (nI n), .ref mr, .ref mw, .ref mt, .ref ml, .ref mk, .ref mv, .int em, .int sp, .int rs])), (mp, .inl (cI, 64, .inl fo)), (mq, .inl (cI, 64, .inl fn)), (mr, .inl (cI, 576, .inl g1)), (mw, .inl (cZ, 64, .inl g2)), (mt, .inl (cI, 8, .inl fs)), (ml, .inl (cI, 4, .inl fl)), (mk, .inl (cI, 20, .inl fk)), (mv, .inl (cI, 20, .inl fv))] H := hP
    have hD : va_D A [(mo, .inr (4, [.int kd, .ref mp, .ref mq, .int (nI n), .ref mr, .ref mw, .ref mt, .ref ml, .ref mk, .ref mv, .int em, .int sp, .int rs])), (mp, .inl (cI, 64, .inl fo)), (mq, .inl (cI, 64, .inl fn)), (mr, .inl (cI, 576, .inl g1)), (mw, .inl (cZ, 64, .inl g2)), (mt, .inl (cI, 8, .inl fs)), (ml, .inl (cI, 4, .inl fl)), (mk, .inl (cI, 20, .inl fk)), (mv, .inl (cI, 20, .inl fv))] := hD
    refine lv_iconst (v := 0) hx hb d_Model_check_14 (by decide) ?_
    refine lv_istore_n hx hb d_Model_check_15 rfl hl (by decide) rfl (fun ls hl => ?_)
    have hl : lv_has ls 4 [(1, .int 0), (0, .ref mo)] := hl
    have key : ∀ (N : Nat) (a : Nat) (H : Heap) (locs : List Loc) (ls : Array Slot), a + N = n → lv_has ls 4 [(1, .int (nI a)), (0, .ref mo)] → va_P D classes [(mo, .inr (4, [.int kd, .ref mp, .ref mq, .int (nI n), .ref mr, .ref mw, .ref mt, .ref ml, .ref mk, .ref mv, .int em, .int sp, .int rs])), (mp, .inl (cI, 64, .inl fo)), (mq, .inl (cI, 64, .inl fn)), (mr, .inl (cI, 576, .inl g1)), (mw, .inl (cZ, 64, .inl g2)), (mt, .inl (cI, 8, .inl fs)), (ml, .inl (cI, 4, .inl fl)), (mk, .inl (cI, 20, .inl fk)), (mv, .inl (cI, 20, .inl fv))] H → va_D A [(mo, .inr (4, [.int kd, .ref mp, .ref mq, .int (nI n), .ref mr, .ref mw, .ref mt, .ref ml, .ref mk, .ref mv, .int em, .int sp, .int rs])), (mp, .inl (cI, 64, .inl fo)), (mq, .inl (cI, 64, .inl fn)), (mr, .inl (cI, 576, .inl g1)), (mw, .inl (cZ, 64, .inl g2)), (mt, .inl (cI, 8, .inl fs)), (ml, .inl (cI, 4, .inl fl)), (mk, .inl (cI, 20, .inl fk)), (mv, .inl (cI, 20, .inl fv))] → (∀ i, i < a → ¬ Bad kd (acOf kd) n fo fn i) → va_S A s.heap H locs → W p l e (headSpec w_Model_check (rmk 3)).room s m ([.ref mo] : List Value).toArray below meth c H locs 0 0 (MQ below (va_Qi (fun (r : Int32) (u : (Nat → Int32) × (Nat → Int32)) => (n = 0 ∧ r = 64) ∨ (0 < n ∧ ChkR kd (acOf kd) n fo fn r)) (fun u t => ME D A [(mo, .inr (4, [.int kd, .ref mp, .ref mq, .int (nI n), .ref mr, .ref mw, .ref mt, .ref ml, .ref mk, .ref mv, .int em, .int sp, .int rs])), (mp, .inl (cI, 64, .inl fo)), (mq, .inl (cI, 64, .inl fn)), (mr, .inl (cI, 576, .inl u.1)), (mw, .inl (cZ, 64, .inl u.2)), (mt, .inl (cI, 8, .inl fs)), (ml, .inl (cI, 4, .inl fl)), (mk, .inl (cI, 20, .inl fk)), (mv, .inl (cI, 20, .inl fv))] t) A) ([.ref mo] : List Value).toArray s 0 0 A) (F0 m 16 ls []) := by
      intro N
      induction N with
      | zero =>
        intro a H locs ls haN hl hP hD hbt hS
        refine lv_iload_n hx hb d_Model_check_16 rfl (lv_at hl 0 rfl) ?_
        refine lv_aload_n hx hb d_Model_check_17 rfl (lv_at hl 1 rfl) ?_
        refine va_get (D := D) (ci := 4) (v := .int (nI n)) (C := R_Model) (T := F_Model) (N := 13) hx hb hts in_Model hown hE.1 hP 0 rfl rfl 3 (by decide) (hts _ k_319) (fun _ h9 => h9) rfl d_Model_check_18 ?_
        refine lv_icmp_ge (tgt := 84) hx hb d_Model_check_21 (by decide) (fun h2 => ?_) (fun h2 => ?_)
        · -- (nI n) ≤ (nI a)
          refine lv_bipush (v := (-2)) hx hb d_Model_check_84 (by decide) ?_
          refine W.iret hx hb hr (fun t ht hW => ⟨⟨(-2), (g1, g2), rfl, ?_, ?_⟩, hS.F ht⟩) hS.2.2 d_Model_check_86
          · exact Or.inr ⟨h0n, Or.inl ⟨rfl, fun k hk2 => hbt k (by omega)⟩⟩
          · exact ⟨by rw [ht]; exact hP.sub [0, 1, 2, 3, 4, 5, 6, 7, 8] rfl, hD.sub [0, 1, 2, 3, 4, 5, 6, 7, 8] (by decide) rfl⟩
        · -- ¬ (nI n) ≤ (nI a)
          exact absurd (nI_le (by omega) (by omega)) h2
      | succ N ih =>
        intro a H locs ls haN hl hP hD hbt hS
        refine lv_iload_n hx hb d_Model_check_16 rfl (lv_at hl 0 rfl) ?_
        refine lv_aload_n hx hb d_Model_check_17 rfl (lv_at hl 1 rfl) ?_
        refine va_get (D := D) (ci := 4) (v := .int (nI n)) (C := R_Model) (T := F_Model) (N := 13) hx hb hts in_Model hown hE.1 hP 0 rfl rfl 3 (by decide) (hts _ k_319) (fun _ h9 => h9) rfl d_Model_check_18 ?_
        refine lv_icmp_ge (tgt := 84) hx hb d_Model_check_21 (by decide) (fun h3 => ?_) (fun h3 => ?_)
        · -- (nI n) ≤ (nI a)
          exact absurd h3 (nI_ge (by omega) (by omega))
        · -- ¬ (nI n) ≤ (nI a)
          refine lv_iconst (v := 0) hx hb d_Model_check_24 (by decide) ?_
          refine lv_istore_n hx hb d_Model_check_25 rfl hl (by decide) rfl (fun ls hl => ?_)
          have hl : lv_has ls 4 [(2, .int 0), (1, .int (nI a)), (0, .ref mo)] := hl
          refine lv_iconst (v := 0) hx hb d_Model_check_26 (by decide) ?_
          refine lv_istore_n hx hb d_Model_check_27 rfl hl (by decide) rfl (fun ls hl => ?_)
          have hl : lv_has ls 4 [(3, .int 0), (2, .int 0), (1, .int (nI a)), (0, .ref mo)] := hl
          have key2 : ∀ (M : Nat) (j : Nat) (H : Heap) (locs : List Loc) (ls : Array Slot), j + M = 9 → lv_has ls 4 [(3, .int (nI j)), (2, .int (nI (cntR g1 a j))), (1, .int (nI a)), (0, .ref mo)] → va_P D classes [(mo, .inr (4, [.int kd, .ref mp, .ref mq, .int (nI n), .ref mr, .ref mw, .ref mt, .ref ml, .ref mk, .ref mv, .int em, .int sp, .int rs])), (mp, .inl (cI, 64, .inl fo)), (mq, .inl (cI, 64, .inl fn)), (mr, .inl (cI, 576, .inl g1)), (mw, .inl (cZ, 64, .inl g2)), (mt, .inl (cI, 8, .inl fs)), (ml, .inl (cI, 4, .inl fl)), (mk, .inl (cI, 20, .inl fk)), (mv, .inl (cI, 20, .inl fv))] H → va_D A [(mo, .inr (4, [.int kd, .ref mp, .ref mq, .int (nI n), .ref mr, .ref mw, .ref mt, .ref ml, .ref mk, .ref mv, .int em, .int sp, .int rs])), (mp, .inl (cI, 64, .inl fo)), (mq, .inl (cI, 64, .inl fn)), (mr, .inl (cI, 576, .inl g1)), (mw, .inl (cZ, 64, .inl g2)), (mt, .inl (cI, 8, .inl fs)), (ml, .inl (cI, 4, .inl fl)), (mk, .inl (cI, 20, .inl fk)), (mv, .inl (cI, 20, .inl fv))] → va_S A s.heap H locs → W p l e (headSpec w_Model_check (rmk 3)).room s m ([.ref mo] : List Value).toArray below meth c H locs 0 0 (MQ below (va_Qi (fun (r : Int32) (u : (Nat → Int32) × (Nat → Int32)) => (n = 0 ∧ r = 64) ∨ (0 < n ∧ ChkR kd (acOf kd) n fo fn r)) (fun u t => ME D A [(mo, .inr (4, [.int kd, .ref mp, .ref mq, .int (nI n), .ref mr, .ref mw, .ref mt, .ref ml, .ref mk, .ref mv, .int em, .int sp, .int rs])), (mp, .inl (cI, 64, .inl fo)), (mq, .inl (cI, 64, .inl fn)), (mr, .inl (cI, 576, .inl u.1)), (mw, .inl (cZ, 64, .inl u.2)), (mt, .inl (cI, 8, .inl fs)), (ml, .inl (cI, 4, .inl fl)), (mk, .inl (cI, 20, .inl fk)), (mv, .inl (cI, 20, .inl fv))] t) A) ([.ref mo] : List Value).toArray s 0 0 A) (F0 m 28 ls []) := by
            intro M
            induction M with
            | zero =>
              intro j H locs ls hjM hl hP hD hS
              refine lv_iload_n hx hb d_Model_check_28 rfl (lv_at hl 0 rfl) ?_
              refine lv_bipush (v := 9) hx hb d_Model_check_29 (by decide) ?_
              refine lv_icmp_ge (tgt := 62) hx hb d_Model_check_31 (by decide) (fun h4 => ?_) (fun h4 => ?_)
              · -- 9 ≤ (nI j)
                obtain rfl : j = 9 := by omega
                refine lv_aload_n hx hb d_Model_check_62 rfl (lv_at hl 3 rfl) ?_
                refine va_get (D := D) (ci := 4) (v := .ref mw) (C := R_Model) (T := F_Model) (N := 13) hx hb hts in_Model hown hE.1 hP 0 rfl rfl 5 (by decide) (hts _ k_321) (fun _ h9 => h9) rfl d_Model_check_63 ?_
                refine lv_iload_n hx hb d_Model_check_66 rfl (lv_at hl 2 rfl) ?_
                refine va_zald hx hb hE.1 hP 4 1 rfl rfl (vp_in_nI (by omega) (by decide)) d_Model_check_67 ?_
                refine lv_eqi (y := g2 a) (congrArg g2 (nI_clamp (show a < 2 ^ 31 by omega))) ?_
                refine lv_if_ne (tgt := 76) hx hb d_Model_check_68 (by decide) (fun h5 => ?_) (fun h5 => ?_)
                · -- ¬ (g2 a) = 0
                  refine lv_iload_n hx hb d_Model_check_76 rfl (lv_at hl 2 rfl) ?_
                  refine W.iret hx hb hr (fun t ht hW => ⟨⟨(nI a), (g1, g2), rfl, ?_, ?_⟩, hS.F ht⟩) hS.2.2 d_Model_check_77
                  · exact Or.inr ⟨h0n, Or.inr ⟨a, by omega, rfl, bad_wrong hF (by omega) h5, hbt⟩⟩
                  · exact ⟨by rw [ht]; exact hP.sub [0, 1, 2, 3, 4, 5, 6, 7, 8] rfl, hD.sub [0, 1, 2, 3, 4, 5, 6, 7, 8] (by decide) rfl⟩
                · -- (g2 a) = 0
                  refine lv_iload_n hx hb d_Model_check_71 rfl (lv_at hl 1 rfl) ?_
                  refine lv_iconst (v := 1) hx hb d_Model_check_72 (by decide) ?_
                  refine lv_icmp_le (tgt := 78) hx hb d_Model_check_73 (by decide) (fun h6 => ?_) (fun h6 => ?_)
                  · -- (nI (cntR g1 a 9)) ≤ 1
                    refine lv_iinc (v := ((nI a) + 1)) (k := 2) hx hb d_Model_check_78 hl rfl rfl (by decide) rfl (fun ls hl => ?_)
                    have hl : lv_has ls 4 [(1, .int ((nI a) + 1)), (3, .int (nI 9)), (2, .int (nI (cntR g1 a 9))), (0, .ref mo)] := hl
                    refine lv_goto (tgt := 16) hx hb d_Model_check_81 (by decide) ?_
                    have hl := lv_sub (l' := [(1, .int ((nI a) + 1)), (0, .ref mo)]) hl [0, 3] rfl
                    rw [nI_1] at hl
                    exact ih (a + 1) _ _ _ (by omega) hl hP hD (fun i hi => by
                      by_cases q : i = a
                      · rw [q]; exact not_bad hF (by omega) h5 h6
                      · exact hbt i (by omega)) hS
                  · -- ¬ (nI (cntR g1 a 9)) ≤ 1
                    refine lv_iload_n hx hb d_Model_check_76 rfl (lv_at hl 2 rfl) ?_
                    refine W.iret hx hb hr (fun t ht hW => ⟨⟨(nI a), (g1, g2), rfl, ?_, ?_⟩, hS.F ht⟩) hS.2.2 d_Model_check_77
                    · exact Or.inr ⟨h0n, Or.inr ⟨a, by omega, rfl, bad_many hF (by omega) h6, hbt⟩⟩
                    · exact ⟨by rw [ht]; exact hP.sub [0, 1, 2, 3, 4, 5, 6, 7, 8] rfl, hD.sub [0, 1, 2, 3, 4, 5, 6, 7, 8] (by decide) rfl⟩
              · -- ¬ 9 ≤ (nI j)
                exact absurd (show (9 : Int32) ≤ nI j from nI_le (a := 9) (by omega) (by omega)) h4
            | succ M ih2 =>
              intro j H locs ls hjM hl hP hD hS
              refine lv_iload_n hx hb d_Model_check_28 rfl (lv_at hl 0 rfl) ?_
              refine lv_bipush (v := 9) hx hb d_Model_check_29 (by decide) ?_
              refine lv_icmp_ge (tgt := 62) hx hb d_Model_check_31 (by decide) (fun h7 => ?_) (fun h7 => ?_)
              · -- 9 ≤ (nI j)
                exact absurd (show nI 9 ≤ nI j from h7) (nI_ge (by omega) (by omega))
              · -- ¬ 9 ≤ (nI j)
                refine lv_iload_n hx hb d_Model_check_34 rfl (lv_at hl 1 rfl) ?_
                refine lv_aload_n hx hb d_Model_check_35 rfl (lv_at hl 3 rfl) ?_
                refine va_get (D := D) (ci := 4) (v := .ref mr) (C := R_Model) (T := F_Model) (N := 13) hx hb hts in_Model hown hE.1 hP 0 rfl rfl 4 (by decide) (hts _ k_320) (fun _ h9 => h9) rfl d_Model_check_36 ?_
                refine lv_bipush (v := 9) hx hb d_Model_check_39 (by decide) ?_
                refine lv_iload_n hx hb d_Model_check_41 rfl (lv_at hl 2 rfl) ?_
                refine lv_imul hx hb d_Model_check_42 ?_
                refine lv_iload_n hx hb d_Model_check_43 rfl (lv_at hl 0 rfl) ?_
                refine lv_iadd hx hb d_Model_check_44 ?_
                refine lv_eqi (y := (nI (9 * a + j))) (ix9 a j) ?_
                refine va_iald hx hb hE.1 hP 3 0 rfl rfl (vp_in_nI (by omega) (by decide)) d_Model_check_45 ?_
                refine lv_eqi (y := g1 (9 * a + j)) (congrArg g1 (nI_clamp (show (9 * a + j) < 2 ^ 31 by omega))) ?_
                refine lv_if_eq (tgt := 53) hx hb d_Model_check_46 (by decide) (fun h8 => ?_) (fun h8 => ?_)
                · -- (g1 (9 * a + j)) = 0
                  refine lv_iconst (v := 0) hx hb d_Model_check_53 (by decide) ?_
                  refine lv_iadd hx hb d_Model_check_54 ?_
                  refine lv_eqi (y := (nI (cntR g1 a (j + 1)))) (cntR_0 h8) ?_
                  refine lv_istore_n hx hb d_Model_check_55 rfl hl (by decide) rfl (fun ls hl => ?_)
                  have hl : lv_has ls 4 [(2, .int (nI (cntR g1 a (j + 1)))), (3, .int (nI j)), (1, .int (nI a)), (0, .ref mo)] := hl
                  refine lv_iinc (v := ((nI j) + 1)) (k := 1) hx hb d_Model_check_56 hl rfl rfl (by decide) rfl (fun ls hl => ?_)
                  have hl : lv_has ls 4 [(3, .int ((nI j) + 1)), (2, .int (nI (cntR g1 a (j + 1)))), (1, .int (nI a)), (0, .ref mo)] := hl
                  refine lv_goto (tgt := 28) hx hb d_Model_check_59 (by decide) ?_
                  rw [nI_1] at hl
                  exact ih2 (j + 1) _ _ _ (by omega) (lv_sub hl [0, 1, 2, 3] rfl) hP hD hS
                · -- ¬ (g1 (9 * a + j)) = 0
                  refine lv_iconst (v := 1) hx hb d_Model_check_49 (by decide) ?_
                  refine lv_goto (tgt := 54) hx hb d_Model_check_50 (by decide) ?_
                  refine lv_iadd hx hb d_Model_check_54 ?_
                  refine lv_eqi (y := (nI (cntR g1 a (j + 1)))) (cntR_1 h8) ?_
                  refine lv_istore_n hx hb d_Model_check_55 rfl hl (by decide) rfl (fun ls hl => ?_)
                  have hl : lv_has ls 4 [(2, .int (nI (cntR g1 a (j + 1)))), (3, .int (nI j)), (1, .int (nI a)), (0, .ref mo)] := hl
                  refine lv_iinc (v := ((nI j) + 1)) (k := 1) hx hb d_Model_check_56 hl rfl rfl (by decide) rfl (fun ls hl => ?_)
                  have hl : lv_has ls 4 [(3, .int ((nI j) + 1)), (2, .int (nI (cntR g1 a (j + 1)))), (1, .int (nI a)), (0, .ref mo)] := hl
                  refine lv_goto (tgt := 28) hx hb d_Model_check_59 (by decide) ?_
                  rw [nI_1] at hl
                  exact ih2 (j + 1) _ _ _ (by omega) (lv_sub hl [0, 1, 2, 3] rfl) hP hD hS
          exact key2 9 0 H locs ls rfl (lv_sub hl [0, 1, 2, 3] rfl) (hP.sub [0, 1, 2, 3, 4, 5, 6, 7, 8] rfl) (hD.sub [0, 1, 2, 3, 4, 5, 6, 7, 8] (by decide) rfl) hS
    exact key n 0 H locs ls (Nat.zero_add n) (lv_sub hl [0, 1] rfl) (hP.sub [0, 1, 2, 3, 4, 5, 6, 7, 8] rfl) (hD.sub [0, 1, 2, 3, 4, 5, 6, 7, 8] (by decide) rfl) (fun i h => absurd h (Nat.not_lt_zero i)) hS
  · -- (nI n) = 0
    refine lv_bipush (v := 64) hx hb d_Model_check_7 (by decide) ?_
    refine W.iret hx hb hr (fun t ht hW => ⟨⟨64, (fR, fW), rfl, ?_, ?_⟩, hS.F ht⟩) hS.2.2 d_Model_check_9
    · exact Or.inl ⟨(nI_eq (by omega) (by omega)).mp (show nI n = nI 0 from h1), rfl⟩
    · exact ⟨by rw [ht]; exact hP.sub [0, 1, 2, 3, 4, 5, 6, 7, 8] rfl, hD.sub [0, 1, 2, 3, 4, 5, 6, 7, 8] (by decide) rfl⟩
